/-! THE LAW: pairs -/
section XLP
variable {G : xx_G} {l : Launch} {A A1 : xx_H} {n m : Nat} {k j i q s e t d b h : Nat} {S : sS} {F : xS} {nb r : Nat}
/-- what stands below m -/
def rsB (m : Nat) (A : xx_H) : xx_H := fun z => if z < m then A z else none
theorem rsB_s {z : Nat} {c : va_E} (h : rsB m A z = some c) : z < m ∧ A z = some c := by
  unfold rsB at h
  split at h
  · exact ⟨by assumption, h⟩
  · cases h
/-- the tournament by hand, all of it below m -/
def sB (G : xx_G) (b h m : Nat) (S : sS) (A : xx_H) : Prop := sI G b h S (rsB m A)
theorem sI.mo (hS : sI G b h S A) (u : ∀ z c, A z = some c → A1 z = some c) : sI G b h S A1 := by
  have o : ∀ z c, rsH (b + 46) A z = some c → rsH (b + 46) A1 z = some c := fun z c hz => by
    obtain ⟨h1, h2⟩ := rsH_s hz
    rw [rsH_y h1]; exact u z c h2
  exact ⟨hS.1.mo o, hS.2.1.mo o, hS.2.2⟩
theorem sB.un (hS : sB G b h m S A) : sI G b h S A := sI.mo hS (fun z c hz => (rsB_s hz).2)
theorem sB.W (hS : sB G b h m S A) : simW h S A := hS.un.W
theorem sB.of (hS : sI G b h S A) (lt : ∀ z c, A z = some c → z < m) : sB G b h m S A := by
  have e : rsB m A = A := by
    funext z
    unfold rsB
    split
    · rfl
    · rename_i hz
      cases hA : A z with
      | none => rfl
      | some c => exact absurd (lt z c hA) hz
  unfold sB
  rw [e]; exact hS
theorem sB.cl (hS : sB G b h m S A) (hs : xx_same (b + 16) (b + 46) A A1) : sB G b h m S A1 :=
  sI.cl hS (fun z hz => by unfold rsB; split; exact hs z hz; rfl)
theorem sB.wr (hS : sB G b h m S A) (u : ∀ z, z < m → A1 z = A z) : sB G b h m S A1 := by
  have e : rsB m A1 = rsB m A := by
    funext z
    unfold rsB
    split
    · rename_i hz; exact u z hz
    · rfl
  unfold sB
  rw [e]; exact hS
theorem lw_pk (hC : cI G b F nb r A) (hok : okF (roundF F (nwV G)) (nwV G) (npF F (nwV G)) (r + 1)) (hcan : canB F (nwV G) nb = true) : ∀ r1 A1 n1, xQ (exA eIS) (aPair (nwV G) nb F) n (fun A' => (∃ r', gI b (ruG G) (nrV G) (nwV G) (nPair (nwV G) nb F) r' (sPair (nwV G) nb F) A') ∧ xx_same (b + 16) (b + 46) A A') r1 A1 n1 → r1 = .inl (some (.int (nI (npF F (nwV G))))) ∧ n1 = n ∧ (cI G b (roundF F (nwV G)) (npF F (nwV G)) (r + 1) A1 ∧ xx_same (b + 16) (b + 46) A A1) := fun r1 A1 n1 hq => by
  obtain ⟨h1, h2, ⟨r', h3⟩, h4⟩ := hq
  have ea : aPair (nwV G) nb F = (0, nI (npF F (nwV G))) := if_pos hcan
  have eb : nPair (nwV G) nb F = npF F (nwV G) := if_pos hcan
  have ec : sPair (nwV G) nb F = roundF F (nwV G) := if_pos hcan
  rw [ea, ansR_0] at h2
  rw [eb, ec] at h3
  have er := gI_r h3 hok
  subst er
  exact ⟨h2, h1, hC.cl h3 h4, h4⟩
/-- the resting one, among the first ones -/
noncomputable def rzF (F : xS) (nw i : Nat) : Int32 := if rsF F nw = -1 ∨ i ≤ wi (rsF F nw) then -1 else rsF F nw
theorem rzF_0 {F : xS} {nw : Nat} : rzF F nw 0 = -1 := if_pos (Or.inr (Nat.zero_le _))
theorem rzF_y {F : xS} {nw i : Nat} (hi : i < 1000) (h : rsF F nw = nI i) : rzF F nw i = -1 ∧ rzF F nw (i + 1) = nI i := by
  unfold rzF
  rw [h, wi_nI hi]
  exact ⟨if_pos (Or.inr (Nat.le_refl _)), if_neg (fun z => z.elim (nI_m1 (by omega)) (fun y => by omega))⟩
theorem rzF_n {F : xS} {nw i : Nat} (h12 : nw ≤ 12) (hi : i < 1000) (h : ¬ rsF F nw = nI i) : rzF F nw (i + 1) = rzF F nw i := by
  unfold rzF
  rcases (prs_ok (F := F) (nw := nw) h12).2 with z | ⟨w, hw, z⟩
  · rw [if_pos (Or.inl z), if_pos (Or.inl z)]
  · rw [z, wi_nI (show w < 1000 by omega)]
    have : ¬ w = i := fun y => h (by rw [z, y])
    by_cases c : i ≤ w
    · rw [if_pos (Or.inr (by omega)), if_pos (Or.inr c)]
    · rw [if_neg (fun y => y.elim (nI_m1 (by omega)) (fun y => by omega)), if_neg (fun y => y.elim (nI_m1 (by omega)) c)]
theorem rzF_e {F : xS} {nw : Nat} (h12 : nw ≤ 12) : rzF F nw nw = rsF F nw := by
  unfold rzF
  rcases (prs_ok (F := F) (nw := nw) h12).2 with z | ⟨w, hw, z⟩
  · rw [if_pos (Or.inl z), z]
  · rw [z, wi_nI (show w < 1000 by omega), if_neg (fun y => y.elim (nI_m1 (by omega)) (fun y => by omega))]
def pairQ (G : xx_G) (b h : Nat) (F : xS) (r : Nat) : xx_Q := fun r' A' n' => r' = .inl (some (.int 1)) ∧ ∃ S', cI G b (tlP (ruG G) (npF F (nwV G)) 0 (roundF F (nwV G)) 0).1 (npF F (nwV G)) (r + 1) A' ∧ sI G b h S' A' ∧ tiS S' (tlP (ruG G) (npF F (nwV G)) 0 (roundF F (nwV G)) 0).1 (nwV G) (npF F (nwV G)) (r + 1)
set_option maxRecDepth 100000 in
set_option maxHeartbeats 8000000 in
theorem c_L_pairs (hst : l.stackTraces = false) (hC : cI G b F nb r A) (hS : sI G b h S A) (hT : tiS S F (nwV G) nb r) (hcan : canB F (nwV G) nb = true) : xx_C G l yL_pairs mL_pairs 33 800 1500 30000 [.ref b, .ref h] A n (pairQ G b h F r) := by
  have hnw := nwV_lt (G := G)
  have hbd := hT.bd
  have h12 : nwV G ≤ 12 := by omega
  have enw : (nI (nwV G)).toInt = nwV G := i_n (by omega)
  obtain ⟨rk1, rk2, rk3, rk4⟩ := hT.2.1.rnd hcan
  obtain ⟨np, hnp⟩ : ∃ np, np = npF F (nwV G) := ⟨_, rfl⟩
  obtain ⟨F1, hF1⟩ : ∃ F1, F1 = roundF F (nwV G) := ⟨_, rfl⟩
  obtain ⟨i1, i2, i3, i4, i5⟩ := in_pr (F := F) h12
  have hlen := in_len hT.2.2.1
  obtain ⟨len, hle⟩ : ∃ len, len = (lup F (lsF F (nwV G)) (nwV G)).length := ⟨_, rfl⟩
  have hlen6 : len ≤ 6 := by rw [hle]; exact Nat.le_trans lup_len (by omega)
  rw [← hle] at i4 i5 hlen
  have hlen2 : 2 ≤ len := by
    have z := (canB_i.mp hcan).2.2
    rw [hlen, i_lt, i_n (by omega), i_2] at z
    omega
  rw [← hnp] at i5 i2
  have hnp1 : 1 ≤ np ∧ np ≤ 3 := by omega
  have enp : (nI np).toInt = np := i_n (by omega)
  obtain ⟨ra9, raw_, rq⟩ := rnd_at (F := F) h12
  obtain ⟨hpd, -⟩ := prD_F (F := F) h12
  obtain ⟨sl1, sl2, -⟩ := srL_cnt (F := sr_0 F (pX (npF F (nwV G)) (rsF F (nwV G)))) h12 hpd (npF F (nwV G)) (Nat.le_refl _)
  have h8 : ∀ w, w < nwV G → F1.2 2 (8 * 12 + w) = F.2 2 (8 * 12 + w) := fun w hw => by
    rw [hF1, (raw_ w (by omega)).2.2 8 (by omega) (by omega), (sl2 w (by omega)).2.2 8 (by omega) (by omega) (by omega)]
  have h5 : ∀ w, w < nwV G → F1.2 2 (5 * 12 + w) = F.2 2 (5 * 12 + w) + (if rsF F (nwV G) = nI w then 1 else 0) := fun w hw => by rw [hF1]; exact (raw_ w (by omega)).1
  have h1p : ∀ w, w < nwV G → F1.2 2 (1 * 12 + w) = F.2 2 (1 * 12 + w) + (if rsF F (nwV G) = nI w then F.2 1 2 else 0) := fun w hw => by rw [hF1]; exact (raw_ w (by omega)).2.1
  have h9r : F1.1 9 = rsF F (nwV G) := by rw [hF1]; exact ra9
  refine J_CH hst (by decide +kernel) rfl rfl rfl (Nat.le_of_ble_eq_true rfl) ?_
  show xx_J _ _ _ _ _ _ _ _ 0 [(0, _), (1, _)] [] _ _ _ _
  refine J_ltA (fun lt0 => ?_)
  have hhn := lt0 _ _ hS.W.1
  have hh46 := hS.hd.1
  have hS0 := sB.of hS lt0
  refine J_aload_n dL_pairs_0 rfl rfl ?_
  refine J_callVr (As := []) dL_pairs_1 ml_L_183 cal_X6_wrestlers im_X6_wrestlers se_X6_wrestlers (hC.1.at 0 rfl) rfl rfl rfl (Nat.le_of_ble_eq_true rfl) ⟨by decide, by decide⟩ ⟨by omega, by omega⟩ (k_wrs hst hC) ?_
  refine J_istore_n (L' := [(2, _), (0, _), (1, _)]) dL_pairs_4 rfl (by decide) rfl ?_
  refine J_iload_n dL_pairs_5 rfl rfl ?_
  refine J_newi (N := nwV G) dL_pairs_6 ac_int (nI_pos (by omega)) (nI_clamp (by omega)) (by omega) (by omega) (by omega) ?_
  refine J_up (fun A1 g1 o1 => ?_)
  have hC1 := hC.up (fun z hz => o1 z (by omega))
  have hS1 := hS0.wr (fun z hz => o1 z (by omega))
  refine J_astore_n (L' := [(3, _), (2, _), (0, _), (1, _)]) dL_pairs_8 rfl (by decide) rfl ?_
  refine J_iload_n dL_pairs_9 rfl rfl ?_
  refine J_newi (N := nwV G) dL_pairs_10 ac_int (nI_pos (by omega)) (nI_clamp (by omega)) (by omega) (by omega) (by omega) ?_
  refine J_up (fun A2 g2 o2 => ?_)
  have hC2 := hC1.up (fun z hz => o2 z (by omega))
  have hS2 := hS1.wr (fun z hz => o2 z (by omega))
  have tgn2 := (o2 _ (by omega)).trans g1
  refine J_astore (L' := [(4, _), (3, _), (2, _), (0, _), (1, _)]) dL_pairs_12 (by decide) rfl ?_
  refine J_iload_n dL_pairs_14 rfl rfl ?_
  refine J_newi (N := nwV G) dL_pairs_15 ac_int (nI_pos (by omega)) (nI_clamp (by omega)) (by omega) (by omega) (by omega) ?_
  refine J_up (fun A3 g3 o3 => ?_)
  have hC3 := hC2.up (fun z hz => o3 z (by omega))
  have hS3 := hS2.wr (fun z hz => o3 z (by omega))
  have tgn3 := (o3 _ (by omega)).trans tgn2
  have tgp3 := (o3 _ (by omega)).trans g2
  refine J_astore (L' := [(5, _), (4, _), (3, _), (2, _), (0, _), (1, _)]) dL_pairs_17 (by decide) rfl ?_
  refine J_iload_n dL_pairs_19 rfl rfl ?_
  refine J_newi (N := nwV G) dL_pairs_20 ac_int (nI_pos (by omega)) (nI_clamp (by omega)) (by omega) (by omega) (by omega) ?_
  refine J_up (fun A4 g4 o4 => ?_)
  have hC4 := hC3.up (fun z hz => o4 z (by omega))
  have hS4 := hS3.wr (fun z hz => o4 z (by omega))
  have tgb4 := (o4 _ (by omega)).trans g3
  have tgn4 := (o4 _ (by omega)).trans tgn3
  have tgp4 := (o4 _ (by omega)).trans tgp3
  refine J_astore (L' := [(6, _), (5, _), (4, _), (3, _), (2, _), (0, _), (1, _)]) dL_pairs_22 (by decide) rfl ?_
  refine J_iload_n dL_pairs_24 rfl rfl ?_
  refine J_newi (N := nwV G) dL_pairs_25 ac_int (nI_pos (by omega)) (nI_clamp (by omega)) (by omega) (by omega) (by omega) ?_
  refine J_up (fun A5 g5 o5 => ?_)
  have hC5 := hC4.up (fun z hz => o5 z (by omega))
  have hS5 := hS4.wr (fun z hz => o5 z (by omega))
  have tgb5 := (o5 _ (by omega)).trans tgb4
  have tgf5 := (o5 _ (by omega)).trans g4
  have tgn5 := (o5 _ (by omega)).trans tgn4
  have tgp5 := (o5 _ (by omega)).trans tgp4
  refine J_astore (L' := [(7, _), (6, _), (5, _), (4, _), (3, _), (2, _), (0, _), (1, _)]) dL_pairs_27 (by decide) rfl ?_
  refine J_iconst (v := 0) dL_pairs_29 (by decide) ?_
  refine J_istore (L' := [(8, _), (7, _), (6, _), (5, _), (4, _), (3, _), (2, _), (0, _), (1, _)]) dL_pairs_30 (by decide) rfl ?_
  have loop1 : ∀ i, i ≤ nwV G → ∀ (n2 : Nat) (gn gp gb gf gr : Nat → Int32) (A1 : xx_H) (K J : Nat), K + 8 * (nwV G - i) ≤ 100 → J + 48 * (nwV G - i) ≤ 1000 → (n + 5 ≤ n2) → (cI G b F nb r A1) → (sB G b h n S A1) → (A1 n = some (.inl (0, nwV G, .inl gn))) → (A1 (n + 1) = some (.inl (0, nwV G, .inl gp))) → (A1 (n + 2) = some (.inl (0, nwV G, .inl gb))) → (A1 (n + 3) = some (.inl (0, nwV G, .inl gf))) → (A1 (n + 4) = some (.inl (0, nwV G, .inl gr))) → (∀ p, p < i → gn p = rivN F (nwV G) (nI p) ∧ gp p = F.2 2 (1 * 12 + p) ∧ gb p = F.2 2 (6 * 12 + p) ∧ gf p = F.2 2 (7 * 12 + p) ∧ gr p = F.2 2 (5 * 12 + p)) → xx_J G l mL_pairs 33 800 1500 30000 (pairQ G b h F r) 32 [(8, .int (nI i)), (7, .ref (n + 4)), (6, .ref (n + 3)), (5, .ref (n + 2)), (4, .ref (n + 1)), (3, .ref n), (2, .int (nI (nwV G))), (0, .ref b), (1, .ref h)] [] A1 n2 K J := by
    refine xx_dn ?_ ?_
    · intro n2  gn gp gb gf gr  A1 K J hK hJ hn2 hC3 hS3 t3gn t3gp t3gb t3gf t3gr hg
      have ei : (nI (nwV G)).toInt = nwV G := enw
      refine J_iload dL_pairs_32 rfl ?_
      refine J_iload_n dL_pairs_34 rfl rfl ?_
      refine J_icmp_ge (tgt := 108) dL_pairs_35 rfl (fun h35 => ?_) (fun h35 => ?_)
      · refine J_aload_n dL_pairs_108 rfl rfl ?_
        refine J_callVz (As := []) dL_pairs_109 ml_L_260 cal_X6_nextRematches im_X6_nextRematches se_X6_nextRematches (hC3.1.at 0 rfl) rfl rfl rfl (Nat.le_of_ble_eq_true rfl) ⟨by decide, by decide⟩ ⟨by omega, by omega⟩ (c_X6_nextRematches hst hC3.1 hC3.2.1) (lw_q hC3 (show aRem (nwV G) nb F = (0, rmN F (p1F F (nwV G)) (p2F F (nwV G)) (npF F (nwV G))) from if_pos hcan)) (fun A126 hQ126 => ?_)
        have hC126 := hQ126.1
        have hS126 := hS3.cl hQ126.2
        have tgb126 := (hQ126.2 _ (Or.inr (by omega))).trans t3gb
        have tgf126 := (hQ126.2 _ (Or.inr (by omega))).trans t3gf
        have tgn126 := (hQ126.2 _ (Or.inr (by omega))).trans t3gn
        have tgp126 := (hQ126.2 _ (Or.inr (by omega))).trans t3gp
        have tgr126 := (hQ126.2 _ (Or.inr (by omega))).trans t3gr
        refine J_istore (L' := [(8, _), (7, _), (6, _), (5, _), (4, _), (3, _), (2, _), (0, _), (1, _)]) dL_pairs_112 (by decide) rfl ?_
        refine J_iconst (v := 0) dL_pairs_114 (by decide) ?_
        refine J_istore (L' := [(9, _), (8, _), (7, _), (6, _), (5, _), (4, _), (3, _), (2, _), (0, _), (1, _)]) dL_pairs_115 (by decide) rfl ?_
        refine J_aload_n dL_pairs_117 rfl rfl ?_
        refine J_callVz (As := []) dL_pairs_118 ml_L_145 cal_X6_pairRound im_X6_pairRound se_X6_pairRound (hC126.1.at 0 rfl) rfl rfl rfl (Nat.le_of_ble_eq_true rfl) ⟨by decide, by decide⟩ ⟨by omega, by omega⟩ (c_X6_pairRound hst hC126.1 hC126.2.1) (lw_pk hC126 rk4 hcan) (fun A127 hQ127 => ?_)
        rw [← hF1, ← hnp] at hQ127
        rw [← hnp]
        have hC127 := hQ127.1
        have hS127 := hS126.cl hQ127.2
        have tgb127 := (hQ127.2 _ (Or.inr (by omega))).trans tgb126
        have tgf127 := (hQ127.2 _ (Or.inr (by omega))).trans tgf126
        have tgn127 := (hQ127.2 _ (Or.inr (by omega))).trans tgn126
        have tgp127 := (hQ127.2 _ (Or.inr (by omega))).trans tgp126
        have tgr127 := (hQ127.2 _ (Or.inr (by omega))).trans tgr126
        refine J_istore (L' := [(10, _), (9, _), (8, _), (7, _), (6, _), (5, _), (4, _), (3, _), (2, _), (0, _), (1, _)]) dL_pairs_121 (by decide) rfl ?_
        refine J_aload_n dL_pairs_123 rfl rfl ?_
        refine J_ltA (fun lt5 => ?_)
        have hSu := hS127.un
        refine J_callV (As := []) dL_pairs_124 ml_L_142 cal_X7_pair im_X7_pair se_X7_pair (hSu.W.1) rfl rfl rfl (Nat.le_of_ble_eq_true rfl) ⟨by decide, by decide⟩ ⟨by omega, by omega⟩ (c_X7_pair hst hSu.W hT.n1 hT.n3 hT.1.1 (by omega) hSu.2.2.1 (by omega) (by omega)) (fun E A n _ hq => absurd hq.1 (fun z => nomatch z)) (fun v1 A6 n6 hn6 hQ6 => ?_)
        obtain ⟨er1, ls, f, S1, q1, q2, q3, q4, q5, q6, q7, q8, q9, q10⟩ := hQ6
        cases er1
        obtain ⟨hS6, u6⟩ := hSu.pr lt5 q3 q4 q5 q6 q8 q9 q10
        have hC6 := hC127.up u6
        obtain ⟨hT1, eN1⟩ := hT.round hcan q1 q2 q9
        rw [← hF1, ← hnp] at hT1
        have hbd1 := hT1.bd
        have fa := fun (q : Nat) (hq : q < np) => rnd_bout (F := F) hT.2.2.1 h12 (hnp ▸ hq)
        rw [← hF1] at fa
        have t6gn := (q10 _ (by omega) (by omega)).trans tgn127
        have t6gp := (q10 _ (by omega) (by omega)).trans tgp127
        have t6gb := (q10 _ (by omega) (by omega)).trans tgb127
        have t6gf := (q10 _ (by omega) (by omega)).trans tgf127
        have t6gr := (q10 _ (by omega) (by omega)).trans tgr127
        refine J_iload dL_pairs_127 rfl ?_
        refine J_aload_n dL_pairs_129 rfl rfl ?_
        have hin1 : bx_sum (fun w => F1.2 2 (8 * 12 + w)) (nwV G) = nI len := by rw [bx_c (nwV G) h8]; exact hlen
        refine J_callVr (As := []) dL_pairs_130 ml_L_224 cal_X6_wrestlersIn im_X6_wrestlersIn se_X6_wrestlersIn (hC6.1.at 0 rfl) rfl rfl rfl (Nat.le_of_ble_eq_true rfl) ⟨by decide, by decide⟩ ⟨by omega, by omega⟩ (k_in hst hC6) ?_
        rw [hin1]
        refine J_iconst (v := 2) dL_pairs_133 (by decide) ?_
        refine J_idiv dL_pairs_134 (by decide) ?_
        rw [div2 len (by omega), ← i5]
        refine J_icmp_ne (tgt := 147) dL_pairs_135 rfl (fun h135 => ?_) (fun h135 => ?_)
        · exact absurd rfl h135
        · refine J_aload_n dL_pairs_138 rfl rfl ?_
          refine J_callVr (As := []) dL_pairs_139 ml_L_233 cal_X6_openBouts im_X6_openBouts se_X6_openBouts (hC6.1.at 0 rfl) rfl rfl rfl (Nat.le_of_ble_eq_true rfl) ⟨by decide, by decide⟩ ⟨by omega, by omega⟩ (k_open hst hC6) ?_
          have hop1 : bx_sum (opn (F1.2 6)) np = nI np := by
            rw [opN_sum, opN_all np (fun q hq => by rw [hF1, rq 6 (by omega)]; exact ((srL_cnt (F := sr_0 F (pX (npF F (nwV G)) (rsF F (nwV G)))) h12 hpd (npF F (nwV G)) (Nat.le_refl _)).2.2.2.2.1 q (hnp ▸ hq)).2.2)]
          rw [hop1]
          refine J_iload dL_pairs_142 rfl ?_
          refine J_icmp_eq (tgt := 149) dL_pairs_144 rfl (fun h144 => ?_) (fun h144 => ?_)
          · refine J_iconst (v := -1) dL_pairs_149 (by decide) ?_
            refine J_istore (L' := [(11, _), (10, _), (9, _), (8, _), (7, _), (6, _), (5, _), (4, _), (3, _), (2, _), (0, _), (1, _)]) dL_pairs_150 (by decide) rfl ?_
            refine J_iconst (v := 0) dL_pairs_152 (by decide) ?_
            refine J_istore (L' := [(12, _), (11, _), (10, _), (9, _), (8, _), (7, _), (6, _), (5, _), (4, _), (3, _), (2, _), (0, _), (1, _)]) dL_pairs_153 (by decide) rfl ?_
            have loop2 : ∀ i, i ≤ nwV G → ∀  (A1 : xx_H) (K J : Nat), K + 8 * (nwV G - i) ≤ 300 → J + 60 * (nwV G - i) ≤ 9000 → (cI G b F1 np (r + 1) A1) → (sI G b h S1 A1) → (A1 n = some (.inl (0, nwV G, .inl gn))) → (A1 (n + 1) = some (.inl (0, nwV G, .inl gp))) → (A1 (n + 2) = some (.inl (0, nwV G, .inl gb))) → (A1 (n + 3) = some (.inl (0, nwV G, .inl gf))) → (A1 (n + 4) = some (.inl (0, nwV G, .inl gr))) → xx_J G l mL_pairs 33 800 1500 30000 (pairQ G b h F r) 155 [(12, .int (nI i)), (11, .int (rzF F (nwV G) i)), (10, .int (nI np)), (9, .int 0), (8, .int (rmN F (p1F F (nwV G)) (p2F F (nwV G)) np)), (7, .ref (n + 4)), (6, .ref (n + 3)), (5, .ref (n + 2)), (4, .ref (n + 1)), (3, .ref n), (2, .int (nI (nwV G))), (0, .ref b), (1, .ref h)] [] A1 n6 K J := by
              refine xx_dn ?_ ?_
              · intro  A1 K J hK hJ hC7 hS7 t7gn t7gp t7gb t7gf t7gr
                have ei : (nI (nwV G)).toInt = nwV G := enw
                rw [rzF_e h12]
                refine J_iload dL_pairs_155 rfl ?_
                refine J_iload_n dL_pairs_157 rfl rfl ?_
                refine J_icmp_ge (tgt := 301) dL_pairs_158 rfl (fun h158 => ?_) (fun h158 => ?_)
                · have rest331 : ∀ (A1 : xx_H) (K J : Nat), K ≤ 400 → J ≤ 10000 → (cI G b F1 np (r + 1) A1) → (sI G b h S1 A1) → (A1 n = some (.inl (0, nwV G, .inl gn))) → (A1 (n + 1) = some (.inl (0, nwV G, .inl gp))) → (A1 (n + 2) = some (.inl (0, nwV G, .inl gb))) → (A1 (n + 3) = some (.inl (0, nwV G, .inl gf))) → (A1 (n + 4) = some (.inl (0, nwV G, .inl gr))) → xx_J G l mL_pairs 33 800 1500 30000 (pairQ G b h F r) 331 [(11, .int (rsF F (nwV G))), (10, .int (nI np)), (9, .int 0), (8, .int (rmN F (p1F F (nwV G)) (p2F F (nwV G)) np)), (7, .ref (n + 4)), (6, .ref (n + 3)), (5, .ref (n + 2)), (4, .ref (n + 1)), (3, .ref n), (2, .int (nI (nwV G))), (0, .ref b), (1, .ref h)] [] A1 n6 K J := by
                    intro A1 K J hK hJ hC8 hS8 t8gn t8gp t8gb t8gf t8gr
                    refine J_iconst (v := 0) dL_pairs_331 (by decide) ?_
                    refine J_istore (L' := [(12, _), (11, _), (10, _), (9, _), (8, _), (7, _), (6, _), (5, _), (4, _), (3, _), (2, _), (0, _), (1, _)]) dL_pairs_332 (by decide) rfl ?_
                    have loop3 : ∀ i, i ≤ nwV G → ∀  (A1 : xx_H) (K J : Nat), K + 2 * (nwV G - i) ≤ 500 → J + 12 * (nwV G - i) ≤ 11000 → (cI G b F1 np (r + 1) A1) → (sI G b h S1 A1) → (A1 n = some (.inl (0, nwV G, .inl gn))) → (A1 (n + 1) = some (.inl (0, nwV G, .inl gp))) → (A1 (n + 2) = some (.inl (0, nwV G, .inl gb))) → (A1 (n + 3) = some (.inl (0, nwV G, .inl gf))) → (A1 (n + 4) = some (.inl (0, nwV G, .inl gr))) → xx_J G l mL_pairs 33 800 1500 30000 (pairQ G b h F r) 334 [(12, .int (nI i)), (11, .int (rsF F (nwV G))), (10, .int (nI np)), (9, .int 0), (8, .int (rmN F (p1F F (nwV G)) (p2F F (nwV G)) np)), (7, .ref (n + 4)), (6, .ref (n + 3)), (5, .ref (n + 2)), (4, .ref (n + 1)), (3, .ref n), (2, .int (nI (nwV G))), (0, .ref b), (1, .ref h)] [] A1 n6 K J := by
                      refine xx_dn ?_ ?_
                      · intro  A1 K J hK hJ hC4 hS4 t4gn t4gp t4gb t4gf t4gr
                        have ei : (nI (nwV G)).toInt = nwV G := enw
                        refine J_iload dL_pairs_334 rfl ?_
                        refine J_iload_n dL_pairs_336 rfl rfl ?_
                        refine J_icmp_ge (tgt := 375) dL_pairs_337 rfl (fun h337 => ?_) (fun h337 => ?_)
                        · refine J_iconst (v := 0) dL_pairs_375 (by decide) ?_
                          refine J_istore (L' := [(12, _), (11, _), (10, _), (9, _), (8, _), (7, _), (6, _), (5, _), (4, _), (3, _), (2, _), (0, _), (1, _)]) dL_pairs_376 (by decide) rfl ?_
                          have loop4 : ∀ q, q ≤ np → ∀  (A1 : xx_H) (K J : Nat), K + 12 * (np - q) ≤ 700 → J + 90 * (np - q) ≤ 15000 → (cI G b F1 np (r + 1) A1) → (sI G b h S1 A1) → (A1 n = some (.inl (0, nwV G, .inl gn))) → (A1 (n + 1) = some (.inl (0, nwV G, .inl gp))) → (A1 (n + 2) = some (.inl (0, nwV G, .inl gb))) → (A1 (n + 3) = some (.inl (0, nwV G, .inl gf))) → (A1 (n + 4) = some (.inl (0, nwV G, .inl gr))) → xx_J G l mL_pairs 33 800 1500 30000 (pairQ G b h F r) 378 [(12, .int (nI q)), (10, .int (nI np)), (9, .int (rmN F (p1F F (nwV G)) (p2F F (nwV G)) q)), (8, .int (rmN F (p1F F (nwV G)) (p2F F (nwV G)) np)), (7, .ref (n + 4)), (6, .ref (n + 3)), (5, .ref (n + 2)), (4, .ref (n + 1)), (3, .ref n), (2, .int (nI (nwV G))), (0, .ref b), (1, .ref h)] [] A1 n6 K J := by
                            refine xx_dn ?_ ?_
                            · intro  A1 K J hK hJ hC5 hS5 t5gn t5gp t5gb t5gf t5gr
                              have eq9 : (nI np).toInt = np := enp
                              refine J_iload dL_pairs_378 rfl ?_
                              refine J_iload dL_pairs_380 rfl ?_
                              refine J_icmp_ge (tgt := 544) dL_pairs_382 rfl (fun h382 => ?_) (fun h382 => ?_)
                              · refine J_aload_n dL_pairs_544 rfl rfl ?_
                                have hne : ¬ bx_sum (opn (F1.2 6)) np = 0 := by rw [hop1, i_eq, enp, i_0]; omega
                                have eb1 : aTBR (ruG G) np F1 = (0, (tlP (ruG G) np 0 F1 0).2) := if_neg hne
                                have eb2 : sTBR (ruG G) np F1 = (tlP (ruG G) np 0 F1 0).1 := if_neg hne
                                refine J_callVz (As := []) dL_pairs_545 ml_L_160 cal_X6_tellByRules im_X6_tellByRules se_X6_tellByRules (hC5.1.at 0 rfl) rfl rfl rfl (Nat.le_of_ble_eq_true rfl) ⟨by decide, by decide⟩ ⟨by omega, by omega⟩ (c_X6_tellByRules hst hC5.1 hC5.2.1 ruG_v ruG_c) (lw_q2 hC5 eb1) (fun A758 hQ758 => ?_)
                                rw [eb2] at hQ758
                                have hC758 := hQ758.1
                                have hS758 := hS5.cl hQ758.2
                                have tgb758 := (hQ758.2 _ (Or.inr (by omega))).trans t5gb
                                have tgf758 := (hQ758.2 _ (Or.inr (by omega))).trans t5gf
                                have tgn758 := (hQ758.2 _ (Or.inr (by omega))).trans t5gn
                                have tgp758 := (hQ758.2 _ (Or.inr (by omega))).trans t5gp
                                have tgr758 := (hQ758.2 _ (Or.inr (by omega))).trans t5gr
                                refine J_istore (L' := [(12, _), (10, _), (9, _), (8, _), (7, _), (6, _), (5, _), (4, _), (3, _), (2, _), (0, _), (1, _)]) dL_pairs_548 (by decide) rfl ?_
                                refine J_iload dL_pairs_550 rfl ?_
                                refine J_iload dL_pairs_552 rfl ?_
                                refine J_icmp_ne (tgt := 570) dL_pairs_554 rfl (fun h554 => ?_) (fun h554 => ?_)
                                · exact absurd rfl h554
                                · refine J_aload_n dL_pairs_557 rfl rfl ?_
                                  refine J_callVz (As := []) dL_pairs_558 ml_L_157 cal_X7_tellAll im_X7_tellAll se_X7_tellAll (hS758.W.1) rfl rfl rfl (Nat.le_of_ble_eq_true rfl) ⟨by decide, by decide⟩ ⟨by omega, by omega⟩ (c_X7_tellAll hst hS758.W hT1.n1 hT1.n3 hS758.R hS758.2.2.1 hT1.b12) (fun _ _ _ hq => hq) (fun A2 hQ2 => ?_)
                                  obtain ⟨hS2, u2⟩ := hS758.tl hQ2.1 hQ2.2
                                  have hC2 := hC758.up u2
                                  obtain ⟨hT2, ev2⟩ := hT1.tellAll hS758.2.2.2
                                  rw [ev2]
                                  refine J_iload dL_pairs_561 rfl ?_
                                  refine J_icmp_ne (tgt := 570) dL_pairs_563 rfl (fun h563 => ?_) (fun h563 => ?_)
                                  · exact absurd rfl h563
                                  · refine J_iconst (v := 1) dL_pairs_566 (by decide) ?_
                                    refine J_goto (tgt := 571) dL_pairs_567 rfl ?_
                                    refine J_ireturn dL_pairs_571 rfl rfl (by omega) (by omega) ?_
                                    unfold pairQ
                                    rw [← hF1, ← hnp]
                                    exact ⟨rfl, _, hC2, hS2, hT2⟩
                              · first | (exfalso; simp only [i_lt, i_le, i_eq, i_0, i_1, i_2, i_3, i_4, i_5, i_6, i_8, i_9, i_10, i_12, i_16, i_20, i_m1] at h382; omega) | (exfalso; simp only [s_up, a_up, va_up, i_lt, i_le, i_eq, i_0, i_1, i_2, i_3, i_4, i_5, i_6, i_8, i_9, i_10, i_12, i_16, i_20, i_m1, ↓reduceIte, Nat.reduceEqDiff] at h382; omega)
                            · intro q hiq ih  A1 K J hK hJ hC5 hS5 t5gn t5gp t5gb t5gf t5gr
                              have eq9 : (nI q).toInt = q := i_n (by omega)
                              obtain ⟨x, y, hx, hy, hxy, hxx, g4, g5, gle, gbx, gby, gfx, gfy, gm⟩ := fa q hiq
                              obtain ⟨P1, P2, P3⟩ := hpd.1 q (hnp ▸ hiq)
                              obtain ⟨m1, m2⟩ := hT.2.1.2.2.2.2.1 _ _ P1 P2
                              have em9 : (F1.2 3 (x * 12 + y)).toInt = (F.2 3 (p1F F (nwV G) q * 12 + p2F F (nwV G) q)).toInt + 1 := by rw [gm, add_i (by rw [i_1]; omega) (by rw [i_1]; omega), i_1]
                              refine J_iload dL_pairs_378 rfl ?_
                              refine J_iload dL_pairs_380 rfl ?_
                              refine J_icmp_ge (tgt := 544) dL_pairs_382 rfl (fun h382 => ?_) (fun h382 => ?_)
                              · first | (exfalso; simp only [i_lt, i_le, i_eq, i_0, i_1, i_2, i_3, i_4, i_5, i_6, i_8, i_9, i_10, i_12, i_16, i_20, i_m1] at h382; omega) | (exfalso; simp only [s_up, a_up, va_up, i_lt, i_le, i_eq, i_0, i_1, i_2, i_3, i_4, i_5, i_6, i_8, i_9, i_10, i_12, i_16, i_20, i_m1, ↓reduceIte, Nat.reduceEqDiff] at h382; omega)
                              · refine J_aload_n dL_pairs_385 rfl rfl ?_
                                refine J_iload dL_pairs_386 rfl ?_
                                refine J_callVz (As := [_]) dL_pairs_388 ml_L_269 cal_X6_redOf im_X6_redOf se_X6_redOf (hC5.1.at 0 rfl) rfl rfl rfl (Nat.le_of_ble_eq_true rfl) ⟨by decide, by decide⟩ ⟨by omega, by omega⟩ (c_X6_redOf hst hC5.1 hC5.2.1 _) (lw_q hC5 ((an_red hT1 hiq).trans (by rw [g4]))) (fun A828 hQ828 => ?_)
                                have hC828 := hQ828.1
                                have hS828 := hS5.cl hQ828.2
                                have tgb828 := (hQ828.2 _ (Or.inr (by omega))).trans t5gb
                                have tgf828 := (hQ828.2 _ (Or.inr (by omega))).trans t5gf
                                have tgn828 := (hQ828.2 _ (Or.inr (by omega))).trans t5gn
                                have tgp828 := (hQ828.2 _ (Or.inr (by omega))).trans t5gp
                                have tgr828 := (hQ828.2 _ (Or.inr (by omega))).trans t5gr
                                refine J_istore (L' := [(13, _), (12, _), (10, _), (9, _), (8, _), (7, _), (6, _), (5, _), (4, _), (3, _), (2, _), (0, _), (1, _)]) dL_pairs_391 (by decide) rfl ?_
                                refine J_aload_n dL_pairs_393 rfl rfl ?_
                                refine J_iload dL_pairs_394 rfl ?_
                                refine J_callVz (As := [_]) dL_pairs_396 ml_L_272 cal_X6_blueOf im_X6_blueOf se_X6_blueOf (hC828.1.at 0 rfl) rfl rfl rfl (Nat.le_of_ble_eq_true rfl) ⟨by decide, by decide⟩ ⟨by omega, by omega⟩ (c_X6_blueOf hst hC828.1 hC828.2.1 _) (lw_q hC828 ((an_blu hT1 hiq).trans (by rw [g5]))) (fun A829 hQ829 => ?_)
                                have hC829 := hQ829.1
                                have hS829 := hS828.cl hQ829.2
                                have tgb829 := (hQ829.2 _ (Or.inr (by omega))).trans tgb828
                                have tgf829 := (hQ829.2 _ (Or.inr (by omega))).trans tgf828
                                have tgn829 := (hQ829.2 _ (Or.inr (by omega))).trans tgn828
                                have tgp829 := (hQ829.2 _ (Or.inr (by omega))).trans tgp828
                                have tgr829 := (hQ829.2 _ (Or.inr (by omega))).trans tgr828
                                refine J_istore (L' := [(14, _), (13, _), (12, _), (10, _), (9, _), (8, _), (7, _), (6, _), (5, _), (4, _), (3, _), (2, _), (0, _), (1, _)]) dL_pairs_399 (by decide) rfl ?_
                                refine J_iload dL_pairs_401 rfl ?_
                                refine J_aload_n dL_pairs_403 rfl rfl ?_
                                refine J_iload dL_pairs_404 rfl ?_
                                refine J_iload dL_pairs_406 rfl ?_
                                refine J_callVz (As := [_, _]) dL_pairs_408 ml_L_197 cal_X6_timesMet im_X6_timesMet se_X6_timesMet (hC829.1.at 0 rfl) rfl rfl rfl (Nat.le_of_ble_eq_true rfl) ⟨by decide, by decide⟩ ⟨by omega, by omega⟩ (c_X6_timesMet hst hC829.1 hC829.2.1 _ _) (lw_q hC829 (an_met hT1 hx hy)) (fun A830 hQ830 => ?_)
                                have hC830 := hQ830.1
                                have hS830 := hS829.cl hQ830.2
                                have tgb830 := (hQ830.2 _ (Or.inr (by omega))).trans tgb829
                                have tgf830 := (hQ830.2 _ (Or.inr (by omega))).trans tgf829
                                have tgn830 := (hQ830.2 _ (Or.inr (by omega))).trans tgn829
                                have tgp830 := (hQ830.2 _ (Or.inr (by omega))).trans tgp829
                                have tgr830 := (hQ830.2 _ (Or.inr (by omega))).trans tgr829
                                refine J_iconst (v := 1) dL_pairs_411 (by decide) ?_
                                refine J_icmp_le (tgt := 419) dL_pairs_412 rfl (fun h412 => ?_) (fun h412 => ?_)
                                · refine J_iconst (v := 0) dL_pairs_419 (by decide) ?_
                                  refine J_iadd dL_pairs_420 ?_
                                  have ea9 : rmN F (p1F F (nwV G)) (p2F F (nwV G)) q + 0 = rmN F (p1F F (nwV G)) (p2F F (nwV G)) (q + 1) := by
                                    show _ = rmN F (p1F F (nwV G)) (p2F F (nwV G)) q + (if F.2 3 (p1F F (nwV G) q * 12 + p2F F (nwV G) q) > 0 then 1 else 0)
                                    rw [if_neg (fun z => by rw [i_le, em9, i_1] at h412; rw [gt_iff_lt, i_lt, i_0] at z; omega)]
                                  rw [ea9]
                                  refine J_istore (L' := [(9, _), (14, _), (13, _), (12, _), (10, _), (8, _), (7, _), (6, _), (5, _), (4, _), (3, _), (2, _), (0, _), (1, _)]) dL_pairs_421 (by decide) rfl ?_
                                  refine J_aload dL_pairs_423 rfl ?_
                                  refine J_iload dL_pairs_425 rfl ?_
                                  refine J_ialdN x dL_pairs_427 tgb830 rfl hx (by omega) ?_
                                  rw [(hg x hx).2.2.1]
                                  refine J_aload dL_pairs_428 rfl ?_
                                  refine J_iload dL_pairs_430 rfl ?_
                                  refine J_ialdN y dL_pairs_432 tgb830 rfl hy (by omega) ?_
                                  rw [(hg y hy).2.2.1]
                                  refine J_icmp_gt (tgt := 468) dL_pairs_433 rfl (fun h433 => ?_) (fun h433 => ?_)
                                  · exact absurd gle (Int32.not_le.mpr h433)
                                  · refine J_aload_n dL_pairs_436 rfl rfl ?_
                                    refine J_iload dL_pairs_437 rfl ?_
                                    refine J_callVz (As := [_]) dL_pairs_439 ml_L_191 cal_X6_beltsOf im_X6_beltsOf se_X6_beltsOf (hC830.1.at 0 rfl) rfl rfl rfl (Nat.le_of_ble_eq_true rfl) ⟨by decide, by decide⟩ ⟨by omega, by omega⟩ (c_X6_beltsOf hst hC830.1 hC830.2.1 _) (lw_q hC830 (an_of hT1 hx)) (fun A841 hQ841 => ?_)
                                    have hC841 := hQ841.1
                                    have hS841 := hS830.cl hQ841.2
                                    have tgb841 := (hQ841.2 _ (Or.inr (by omega))).trans tgb830
                                    have tgf841 := (hQ841.2 _ (Or.inr (by omega))).trans tgf830
                                    have tgn841 := (hQ841.2 _ (Or.inr (by omega))).trans tgn830
                                    have tgp841 := (hQ841.2 _ (Or.inr (by omega))).trans tgp830
                                    have tgr841 := (hQ841.2 _ (Or.inr (by omega))).trans tgr830
                                    refine J_aload dL_pairs_442 rfl ?_
                                    refine J_iload dL_pairs_444 rfl ?_
                                    refine J_ialdN x dL_pairs_446 tgb841 rfl hx (by omega) ?_
                                    rw [(hg x hx).2.2.1]
                                    refine J_iconst (v := 1) dL_pairs_447 (by decide) ?_
                                    refine J_iadd dL_pairs_448 ?_
                                    refine J_icmp_ne (tgt := 468) dL_pairs_449 rfl (fun h449 => ?_) (fun h449 => ?_)
                                    · exact absurd gbx h449
                                    · refine J_aload_n dL_pairs_452 rfl rfl ?_
                                      refine J_iload dL_pairs_453 rfl ?_
                                      refine J_callVz (As := [_]) dL_pairs_455 ml_L_191 cal_X6_beltsOf im_X6_beltsOf se_X6_beltsOf (hC841.1.at 0 rfl) rfl rfl rfl (Nat.le_of_ble_eq_true rfl) ⟨by decide, by decide⟩ ⟨by omega, by omega⟩ (c_X6_beltsOf hst hC841.1 hC841.2.1 _) (lw_q hC841 (an_of hT1 hy)) (fun A842 hQ842 => ?_)
                                      have hC842 := hQ842.1
                                      have hS842 := hS841.cl hQ842.2
                                      have tgb842 := (hQ842.2 _ (Or.inr (by omega))).trans tgb841
                                      have tgf842 := (hQ842.2 _ (Or.inr (by omega))).trans tgf841
                                      have tgn842 := (hQ842.2 _ (Or.inr (by omega))).trans tgn841
                                      have tgp842 := (hQ842.2 _ (Or.inr (by omega))).trans tgp841
                                      have tgr842 := (hQ842.2 _ (Or.inr (by omega))).trans tgr841
                                      refine J_aload dL_pairs_458 rfl ?_
                                      refine J_iload dL_pairs_460 rfl ?_
                                      refine J_ialdN y dL_pairs_462 tgb842 rfl hy (by omega) ?_
                                      rw [(hg y hy).2.2.1]
                                      refine J_iconst (v := 1) dL_pairs_463 (by decide) ?_
                                      refine J_isub dL_pairs_464 ?_
                                      refine J_icmp_eq (tgt := 470) dL_pairs_465 rfl (fun h465 => ?_) (fun h465 => ?_)
                                      · refine J_aload_n dL_pairs_470 rfl rfl ?_
                                        refine J_iload dL_pairs_471 rfl ?_
                                        refine J_callVz (As := [_]) dL_pairs_473 ml_L_218 cal_X6_floatsOf im_X6_floatsOf se_X6_floatsOf (hC842.1.at 0 rfl) rfl rfl rfl (Nat.le_of_ble_eq_true rfl) ⟨by decide, by decide⟩ ⟨by omega, by omega⟩ (c_X6_floatsOf hst hC842.1 hC842.2.1 _) (lw_q hC842 (an_of hT1 hx)) (fun A843 hQ843 => ?_)
                                        have hC843 := hQ843.1
                                        have hS843 := hS842.cl hQ843.2
                                        have tgb843 := (hQ843.2 _ (Or.inr (by omega))).trans tgb842
                                        have tgf843 := (hQ843.2 _ (Or.inr (by omega))).trans tgf842
                                        have tgn843 := (hQ843.2 _ (Or.inr (by omega))).trans tgn842
                                        have tgp843 := (hQ843.2 _ (Or.inr (by omega))).trans tgp842
                                        have tgr843 := (hQ843.2 _ (Or.inr (by omega))).trans tgr842
                                        refine J_aload dL_pairs_476 rfl ?_
                                        refine J_iload dL_pairs_478 rfl ?_
                                        refine J_ialdN x dL_pairs_480 tgf843 rfl hx (by omega) ?_
                                        rw [(hg x hx).2.2.2.1]
                                        refine J_isub dL_pairs_481 ?_
                                        refine J_aload dL_pairs_482 rfl ?_
                                        refine J_iload dL_pairs_484 rfl ?_
                                        refine J_ialdN x dL_pairs_486 tgp843 rfl hx (by omega) ?_
                                        rw [(hg x hx).2.1]
                                        refine J_aload dL_pairs_487 rfl ?_
                                        refine J_iload dL_pairs_489 rfl ?_
                                        refine J_ialdN y dL_pairs_491 tgp843 rfl hy (by omega) ?_
                                        rw [(hg y hy).2.1]
                                        refine J_icmp_le (tgt := 499) dL_pairs_492 rfl (fun h492 => ?_) (fun h492 => ?_)
                                        · refine J_iconst (v := 0) dL_pairs_499 (by decide) ?_
                                          refine J_icmp_ne (tgt := 536) dL_pairs_500 rfl (fun h500 => ?_) (fun h500 => ?_)
                                          · exact absurd (by rw [gfx, if_pos h492]) h500
                                          · refine J_aload_n dL_pairs_503 rfl rfl ?_
                                            refine J_iload dL_pairs_504 rfl ?_
                                            refine J_callVz (As := [_]) dL_pairs_506 ml_L_218 cal_X6_floatsOf im_X6_floatsOf se_X6_floatsOf (hC843.1.at 0 rfl) rfl rfl rfl (Nat.le_of_ble_eq_true rfl) ⟨by decide, by decide⟩ ⟨by omega, by omega⟩ (c_X6_floatsOf hst hC843.1 hC843.2.1 _) (lw_q hC843 (an_of hT1 hy)) (fun A854 hQ854 => ?_)
                                            have hC854 := hQ854.1
                                            have hS854 := hS843.cl hQ854.2
                                            have tgb854 := (hQ854.2 _ (Or.inr (by omega))).trans tgb843
                                            have tgf854 := (hQ854.2 _ (Or.inr (by omega))).trans tgf843
                                            have tgn854 := (hQ854.2 _ (Or.inr (by omega))).trans tgn843
                                            have tgp854 := (hQ854.2 _ (Or.inr (by omega))).trans tgp843
                                            have tgr854 := (hQ854.2 _ (Or.inr (by omega))).trans tgr843
                                            refine J_aload dL_pairs_509 rfl ?_
                                            refine J_iload dL_pairs_511 rfl ?_
                                            refine J_ialdN y dL_pairs_513 tgf854 rfl hy (by omega) ?_
                                            rw [(hg y hy).2.2.2.1]
                                            refine J_isub dL_pairs_514 ?_
                                            refine J_aload dL_pairs_515 rfl ?_
                                            refine J_iload dL_pairs_517 rfl ?_
                                            refine J_ialdN y dL_pairs_519 tgp854 rfl hy (by omega) ?_
                                            rw [(hg y hy).2.1]
                                            refine J_aload dL_pairs_520 rfl ?_
                                            refine J_iload dL_pairs_522 rfl ?_
                                            refine J_ialdN x dL_pairs_524 tgp854 rfl hx (by omega) ?_
                                            rw [(hg x hx).2.1]
                                            refine J_icmp_le (tgt := 532) dL_pairs_525 rfl (fun h525 => ?_) (fun h525 => ?_)
                                            · refine J_iconst (v := 0) dL_pairs_532 (by decide) ?_
                                              refine J_icmp_eq (tgt := 538) dL_pairs_533 rfl (fun h533 => ?_) (fun h533 => ?_)
                                              · refine J_iinc (v := _ + 1) (L' := [(12, _), (9, _), (14, _), (13, _), (10, _), (8, _), (7, _), (6, _), (5, _), (4, _), (3, _), (2, _), (0, _), (1, _)]) dL_pairs_538 rfl rfl (by decide) rfl ?_
                                                refine J_goto (tgt := 378) dL_pairs_541 rfl ?_
                                                refine xx_J.pick [0, 4, 1, 5, 6, 7, 8, 9, 10, 11, 12, 13] rfl ?_
                                                rw [nI_1]
                                                exact ih _ _ _ (by omega) (by omega) hC854 hS854 tgn854 tgp854 tgb854 tgf854 tgr854
                                              · exact absurd (by rw [gfy, if_pos h525]) h533
                                            · refine J_iconst (v := 1) dL_pairs_528 (by decide) ?_
                                              refine J_goto (tgt := 533) dL_pairs_529 rfl ?_
                                              refine J_icmp_eq (tgt := 538) dL_pairs_533 rfl (fun h533 => ?_) (fun h533 => ?_)
                                              · refine J_iinc (v := _ + 1) (L' := [(12, _), (9, _), (14, _), (13, _), (10, _), (8, _), (7, _), (6, _), (5, _), (4, _), (3, _), (2, _), (0, _), (1, _)]) dL_pairs_538 rfl rfl (by decide) rfl ?_
                                                refine J_goto (tgt := 378) dL_pairs_541 rfl ?_
                                                refine xx_J.pick [0, 4, 1, 5, 6, 7, 8, 9, 10, 11, 12, 13] rfl ?_
                                                rw [nI_1]
                                                exact ih _ _ _ (by omega) (by omega) hC854 hS854 tgn854 tgp854 tgb854 tgf854 tgr854
                                              · exact absurd (by rw [gfy, if_neg h525]) h533
                                        · refine J_iconst (v := 1) dL_pairs_495 (by decide) ?_
                                          refine J_goto (tgt := 500) dL_pairs_496 rfl ?_
                                          refine J_icmp_ne (tgt := 536) dL_pairs_500 rfl (fun h500 => ?_) (fun h500 => ?_)
                                          · exact absurd (by rw [gfx, if_neg h492]) h500
                                          · refine J_aload_n dL_pairs_503 rfl rfl ?_
                                            refine J_iload dL_pairs_504 rfl ?_
                                            refine J_callVz (As := [_]) dL_pairs_506 ml_L_218 cal_X6_floatsOf im_X6_floatsOf se_X6_floatsOf (hC843.1.at 0 rfl) rfl rfl rfl (Nat.le_of_ble_eq_true rfl) ⟨by decide, by decide⟩ ⟨by omega, by omega⟩ (c_X6_floatsOf hst hC843.1 hC843.2.1 _) (lw_q hC843 (an_of hT1 hy)) (fun A854 hQ854 => ?_)
                                            have hC854 := hQ854.1
                                            have hS854 := hS843.cl hQ854.2
                                            have tgb854 := (hQ854.2 _ (Or.inr (by omega))).trans tgb843
                                            have tgf854 := (hQ854.2 _ (Or.inr (by omega))).trans tgf843
                                            have tgn854 := (hQ854.2 _ (Or.inr (by omega))).trans tgn843
                                            have tgp854 := (hQ854.2 _ (Or.inr (by omega))).trans tgp843
                                            have tgr854 := (hQ854.2 _ (Or.inr (by omega))).trans tgr843
                                            refine J_aload dL_pairs_509 rfl ?_
                                            refine J_iload dL_pairs_511 rfl ?_
                                            refine J_ialdN y dL_pairs_513 tgf854 rfl hy (by omega) ?_
                                            rw [(hg y hy).2.2.2.1]
                                            refine J_isub dL_pairs_514 ?_
                                            refine J_aload dL_pairs_515 rfl ?_
                                            refine J_iload dL_pairs_517 rfl ?_
                                            refine J_ialdN y dL_pairs_519 tgp854 rfl hy (by omega) ?_
                                            rw [(hg y hy).2.1]
                                            refine J_aload dL_pairs_520 rfl ?_
                                            refine J_iload dL_pairs_522 rfl ?_
                                            refine J_ialdN x dL_pairs_524 tgp854 rfl hx (by omega) ?_
                                            rw [(hg x hx).2.1]
                                            refine J_icmp_le (tgt := 532) dL_pairs_525 rfl (fun h525 => ?_) (fun h525 => ?_)
                                            · refine J_iconst (v := 0) dL_pairs_532 (by decide) ?_
                                              refine J_icmp_eq (tgt := 538) dL_pairs_533 rfl (fun h533 => ?_) (fun h533 => ?_)
                                              · refine J_iinc (v := _ + 1) (L' := [(12, _), (9, _), (14, _), (13, _), (10, _), (8, _), (7, _), (6, _), (5, _), (4, _), (3, _), (2, _), (0, _), (1, _)]) dL_pairs_538 rfl rfl (by decide) rfl ?_
                                                refine J_goto (tgt := 378) dL_pairs_541 rfl ?_
                                                refine xx_J.pick [0, 4, 1, 5, 6, 7, 8, 9, 10, 11, 12, 13] rfl ?_
                                                rw [nI_1]
                                                exact ih _ _ _ (by omega) (by omega) hC854 hS854 tgn854 tgp854 tgb854 tgf854 tgr854
                                              · exact absurd (by rw [gfy, if_pos h525]) h533
                                            · refine J_iconst (v := 1) dL_pairs_528 (by decide) ?_
                                              refine J_goto (tgt := 533) dL_pairs_529 rfl ?_
                                              refine J_icmp_eq (tgt := 538) dL_pairs_533 rfl (fun h533 => ?_) (fun h533 => ?_)
                                              · refine J_iinc (v := _ + 1) (L' := [(12, _), (9, _), (14, _), (13, _), (10, _), (8, _), (7, _), (6, _), (5, _), (4, _), (3, _), (2, _), (0, _), (1, _)]) dL_pairs_538 rfl rfl (by decide) rfl ?_
                                                refine J_goto (tgt := 378) dL_pairs_541 rfl ?_
                                                refine xx_J.pick [0, 4, 1, 5, 6, 7, 8, 9, 10, 11, 12, 13] rfl ?_
                                                rw [nI_1]
                                                exact ih _ _ _ (by omega) (by omega) hC854 hS854 tgn854 tgp854 tgb854 tgf854 tgr854
                                              · exact absurd (by rw [gfy, if_neg h525]) h533
                                      · exact absurd gby h465
                                · refine J_iconst (v := 1) dL_pairs_415 (by decide) ?_
                                  refine J_goto (tgt := 420) dL_pairs_416 rfl ?_
                                  refine J_iadd dL_pairs_420 ?_
                                  have ea9 : rmN F (p1F F (nwV G)) (p2F F (nwV G)) q + 1 = rmN F (p1F F (nwV G)) (p2F F (nwV G)) (q + 1) := by
                                    show _ = rmN F (p1F F (nwV G)) (p2F F (nwV G)) q + (if F.2 3 (p1F F (nwV G) q * 12 + p2F F (nwV G) q) > 0 then 1 else 0)
                                    rw [if_pos (by rw [gt_iff_lt, i_lt, i_0]; rw [i_le, em9, i_1] at h412; omega)]
                                  rw [ea9]
                                  refine J_istore (L' := [(9, _), (14, _), (13, _), (12, _), (10, _), (8, _), (7, _), (6, _), (5, _), (4, _), (3, _), (2, _), (0, _), (1, _)]) dL_pairs_421 (by decide) rfl ?_
                                  refine J_aload dL_pairs_423 rfl ?_
                                  refine J_iload dL_pairs_425 rfl ?_
                                  refine J_ialdN x dL_pairs_427 tgb830 rfl hx (by omega) ?_
                                  rw [(hg x hx).2.2.1]
                                  refine J_aload dL_pairs_428 rfl ?_
                                  refine J_iload dL_pairs_430 rfl ?_
                                  refine J_ialdN y dL_pairs_432 tgb830 rfl hy (by omega) ?_
                                  rw [(hg y hy).2.2.1]
                                  refine J_icmp_gt (tgt := 468) dL_pairs_433 rfl (fun h433 => ?_) (fun h433 => ?_)
                                  · exact absurd gle (Int32.not_le.mpr h433)
                                  · refine J_aload_n dL_pairs_436 rfl rfl ?_
                                    refine J_iload dL_pairs_437 rfl ?_
                                    refine J_callVz (As := [_]) dL_pairs_439 ml_L_191 cal_X6_beltsOf im_X6_beltsOf se_X6_beltsOf (hC830.1.at 0 rfl) rfl rfl rfl (Nat.le_of_ble_eq_true rfl) ⟨by decide, by decide⟩ ⟨by omega, by omega⟩ (c_X6_beltsOf hst hC830.1 hC830.2.1 _) (lw_q hC830 (an_of hT1 hx)) (fun A841 hQ841 => ?_)
                                    have hC841 := hQ841.1
                                    have hS841 := hS830.cl hQ841.2
                                    have tgb841 := (hQ841.2 _ (Or.inr (by omega))).trans tgb830
                                    have tgf841 := (hQ841.2 _ (Or.inr (by omega))).trans tgf830
                                    have tgn841 := (hQ841.2 _ (Or.inr (by omega))).trans tgn830
                                    have tgp841 := (hQ841.2 _ (Or.inr (by omega))).trans tgp830
                                    have tgr841 := (hQ841.2 _ (Or.inr (by omega))).trans tgr830
                                    refine J_aload dL_pairs_442 rfl ?_
                                    refine J_iload dL_pairs_444 rfl ?_
                                    refine J_ialdN x dL_pairs_446 tgb841 rfl hx (by omega) ?_
                                    rw [(hg x hx).2.2.1]
                                    refine J_iconst (v := 1) dL_pairs_447 (by decide) ?_
                                    refine J_iadd dL_pairs_448 ?_
                                    refine J_icmp_ne (tgt := 468) dL_pairs_449 rfl (fun h449 => ?_) (fun h449 => ?_)
                                    · exact absurd gbx h449
                                    · refine J_aload_n dL_pairs_452 rfl rfl ?_
                                      refine J_iload dL_pairs_453 rfl ?_
                                      refine J_callVz (As := [_]) dL_pairs_455 ml_L_191 cal_X6_beltsOf im_X6_beltsOf se_X6_beltsOf (hC841.1.at 0 rfl) rfl rfl rfl (Nat.le_of_ble_eq_true rfl) ⟨by decide, by decide⟩ ⟨by omega, by omega⟩ (c_X6_beltsOf hst hC841.1 hC841.2.1 _) (lw_q hC841 (an_of hT1 hy)) (fun A842 hQ842 => ?_)
                                      have hC842 := hQ842.1
                                      have hS842 := hS841.cl hQ842.2
                                      have tgb842 := (hQ842.2 _ (Or.inr (by omega))).trans tgb841
                                      have tgf842 := (hQ842.2 _ (Or.inr (by omega))).trans tgf841
                                      have tgn842 := (hQ842.2 _ (Or.inr (by omega))).trans tgn841
                                      have tgp842 := (hQ842.2 _ (Or.inr (by omega))).trans tgp841
                                      have tgr842 := (hQ842.2 _ (Or.inr (by omega))).trans tgr841
                                      refine J_aload dL_pairs_458 rfl ?_
                                      refine J_iload dL_pairs_460 rfl ?_
                                      refine J_ialdN y dL_pairs_462 tgb842 rfl hy (by omega) ?_
                                      rw [(hg y hy).2.2.1]
                                      refine J_iconst (v := 1) dL_pairs_463 (by decide) ?_
                                      refine J_isub dL_pairs_464 ?_
                                      refine J_icmp_eq (tgt := 470) dL_pairs_465 rfl (fun h465 => ?_) (fun h465 => ?_)
                                      · refine J_aload_n dL_pairs_470 rfl rfl ?_
                                        refine J_iload dL_pairs_471 rfl ?_
                                        refine J_callVz (As := [_]) dL_pairs_473 ml_L_218 cal_X6_floatsOf im_X6_floatsOf se_X6_floatsOf (hC842.1.at 0 rfl) rfl rfl rfl (Nat.le_of_ble_eq_true rfl) ⟨by decide, by decide⟩ ⟨by omega, by omega⟩ (c_X6_floatsOf hst hC842.1 hC842.2.1 _) (lw_q hC842 (an_of hT1 hx)) (fun A843 hQ843 => ?_)
                                        have hC843 := hQ843.1
                                        have hS843 := hS842.cl hQ843.2
                                        have tgb843 := (hQ843.2 _ (Or.inr (by omega))).trans tgb842
                                        have tgf843 := (hQ843.2 _ (Or.inr (by omega))).trans tgf842
                                        have tgn843 := (hQ843.2 _ (Or.inr (by omega))).trans tgn842
                                        have tgp843 := (hQ843.2 _ (Or.inr (by omega))).trans tgp842
                                        have tgr843 := (hQ843.2 _ (Or.inr (by omega))).trans tgr842
                                        refine J_aload dL_pairs_476 rfl ?_
                                        refine J_iload dL_pairs_478 rfl ?_
                                        refine J_ialdN x dL_pairs_480 tgf843 rfl hx (by omega) ?_
                                        rw [(hg x hx).2.2.2.1]
                                        refine J_isub dL_pairs_481 ?_
                                        refine J_aload dL_pairs_482 rfl ?_
                                        refine J_iload dL_pairs_484 rfl ?_
                                        refine J_ialdN x dL_pairs_486 tgp843 rfl hx (by omega) ?_
                                        rw [(hg x hx).2.1]
                                        refine J_aload dL_pairs_487 rfl ?_
                                        refine J_iload dL_pairs_489 rfl ?_
                                        refine J_ialdN y dL_pairs_491 tgp843 rfl hy (by omega) ?_
                                        rw [(hg y hy).2.1]
                                        refine J_icmp_le (tgt := 499) dL_pairs_492 rfl (fun h492 => ?_) (fun h492 => ?_)
                                        · refine J_iconst (v := 0) dL_pairs_499 (by decide) ?_
                                          refine J_icmp_ne (tgt := 536) dL_pairs_500 rfl (fun h500 => ?_) (fun h500 => ?_)
                                          · exact absurd (by rw [gfx, if_pos h492]) h500
                                          · refine J_aload_n dL_pairs_503 rfl rfl ?_
                                            refine J_iload dL_pairs_504 rfl ?_
                                            refine J_callVz (As := [_]) dL_pairs_506 ml_L_218 cal_X6_floatsOf im_X6_floatsOf se_X6_floatsOf (hC843.1.at 0 rfl) rfl rfl rfl (Nat.le_of_ble_eq_true rfl) ⟨by decide, by decide⟩ ⟨by omega, by omega⟩ (c_X6_floatsOf hst hC843.1 hC843.2.1 _) (lw_q hC843 (an_of hT1 hy)) (fun A854 hQ854 => ?_)
                                            have hC854 := hQ854.1
                                            have hS854 := hS843.cl hQ854.2
                                            have tgb854 := (hQ854.2 _ (Or.inr (by omega))).trans tgb843
                                            have tgf854 := (hQ854.2 _ (Or.inr (by omega))).trans tgf843
                                            have tgn854 := (hQ854.2 _ (Or.inr (by omega))).trans tgn843
                                            have tgp854 := (hQ854.2 _ (Or.inr (by omega))).trans tgp843
                                            have tgr854 := (hQ854.2 _ (Or.inr (by omega))).trans tgr843
                                            refine J_aload dL_pairs_509 rfl ?_
                                            refine J_iload dL_pairs_511 rfl ?_
                                            refine J_ialdN y dL_pairs_513 tgf854 rfl hy (by omega) ?_
                                            rw [(hg y hy).2.2.2.1]
                                            refine J_isub dL_pairs_514 ?_
                                            refine J_aload dL_pairs_515 rfl ?_
                                            refine J_iload dL_pairs_517 rfl ?_
                                            refine J_ialdN y dL_pairs_519 tgp854 rfl hy (by omega) ?_
                                            rw [(hg y hy).2.1]
                                            refine J_aload dL_pairs_520 rfl ?_
                                            refine J_iload dL_pairs_522 rfl ?_
                                            refine J_ialdN x dL_pairs_524 tgp854 rfl hx (by omega) ?_
                                            rw [(hg x hx).2.1]
                                            refine J_icmp_le (tgt := 532) dL_pairs_525 rfl (fun h525 => ?_) (fun h525 => ?_)
                                            · refine J_iconst (v := 0) dL_pairs_532 (by decide) ?_
                                              refine J_icmp_eq (tgt := 538) dL_pairs_533 rfl (fun h533 => ?_) (fun h533 => ?_)
                                              · refine J_iinc (v := _ + 1) (L' := [(12, _), (9, _), (14, _), (13, _), (10, _), (8, _), (7, _), (6, _), (5, _), (4, _), (3, _), (2, _), (0, _), (1, _)]) dL_pairs_538 rfl rfl (by decide) rfl ?_
                                                refine J_goto (tgt := 378) dL_pairs_541 rfl ?_
                                                refine xx_J.pick [0, 4, 1, 5, 6, 7, 8, 9, 10, 11, 12, 13] rfl ?_
                                                rw [nI_1]
                                                exact ih _ _ _ (by omega) (by omega) hC854 hS854 tgn854 tgp854 tgb854 tgf854 tgr854
                                              · exact absurd (by rw [gfy, if_pos h525]) h533
                                            · refine J_iconst (v := 1) dL_pairs_528 (by decide) ?_
                                              refine J_goto (tgt := 533) dL_pairs_529 rfl ?_
                                              refine J_icmp_eq (tgt := 538) dL_pairs_533 rfl (fun h533 => ?_) (fun h533 => ?_)
                                              · refine J_iinc (v := _ + 1) (L' := [(12, _), (9, _), (14, _), (13, _), (10, _), (8, _), (7, _), (6, _), (5, _), (4, _), (3, _), (2, _), (0, _), (1, _)]) dL_pairs_538 rfl rfl (by decide) rfl ?_
                                                refine J_goto (tgt := 378) dL_pairs_541 rfl ?_
                                                refine xx_J.pick [0, 4, 1, 5, 6, 7, 8, 9, 10, 11, 12, 13] rfl ?_
                                                rw [nI_1]
                                                exact ih _ _ _ (by omega) (by omega) hC854 hS854 tgn854 tgp854 tgb854 tgf854 tgr854
                                              · exact absurd (by rw [gfy, if_neg h525]) h533
                                        · refine J_iconst (v := 1) dL_pairs_495 (by decide) ?_
                                          refine J_goto (tgt := 500) dL_pairs_496 rfl ?_
                                          refine J_icmp_ne (tgt := 536) dL_pairs_500 rfl (fun h500 => ?_) (fun h500 => ?_)
                                          · exact absurd (by rw [gfx, if_neg h492]) h500
                                          · refine J_aload_n dL_pairs_503 rfl rfl ?_
                                            refine J_iload dL_pairs_504 rfl ?_
                                            refine J_callVz (As := [_]) dL_pairs_506 ml_L_218 cal_X6_floatsOf im_X6_floatsOf se_X6_floatsOf (hC843.1.at 0 rfl) rfl rfl rfl (Nat.le_of_ble_eq_true rfl) ⟨by decide, by decide⟩ ⟨by omega, by omega⟩ (c_X6_floatsOf hst hC843.1 hC843.2.1 _) (lw_q hC843 (an_of hT1 hy)) (fun A854 hQ854 => ?_)
                                            have hC854 := hQ854.1
                                            have hS854 := hS843.cl hQ854.2
                                            have tgb854 := (hQ854.2 _ (Or.inr (by omega))).trans tgb843
                                            have tgf854 := (hQ854.2 _ (Or.inr (by omega))).trans tgf843
                                            have tgn854 := (hQ854.2 _ (Or.inr (by omega))).trans tgn843
                                            have tgp854 := (hQ854.2 _ (Or.inr (by omega))).trans tgp843
                                            have tgr854 := (hQ854.2 _ (Or.inr (by omega))).trans tgr843
                                            refine J_aload dL_pairs_509 rfl ?_
                                            refine J_iload dL_pairs_511 rfl ?_
                                            refine J_ialdN y dL_pairs_513 tgf854 rfl hy (by omega) ?_
                                            rw [(hg y hy).2.2.2.1]
                                            refine J_isub dL_pairs_514 ?_
                                            refine J_aload dL_pairs_515 rfl ?_
                                            refine J_iload dL_pairs_517 rfl ?_
                                            refine J_ialdN y dL_pairs_519 tgp854 rfl hy (by omega) ?_
                                            rw [(hg y hy).2.1]
                                            refine J_aload dL_pairs_520 rfl ?_
                                            refine J_iload dL_pairs_522 rfl ?_
                                            refine J_ialdN x dL_pairs_524 tgp854 rfl hx (by omega) ?_
                                            rw [(hg x hx).2.1]
                                            refine J_icmp_le (tgt := 532) dL_pairs_525 rfl (fun h525 => ?_) (fun h525 => ?_)
                                            · refine J_iconst (v := 0) dL_pairs_532 (by decide) ?_
                                              refine J_icmp_eq (tgt := 538) dL_pairs_533 rfl (fun h533 => ?_) (fun h533 => ?_)
                                              · refine J_iinc (v := _ + 1) (L' := [(12, _), (9, _), (14, _), (13, _), (10, _), (8, _), (7, _), (6, _), (5, _), (4, _), (3, _), (2, _), (0, _), (1, _)]) dL_pairs_538 rfl rfl (by decide) rfl ?_
                                                refine J_goto (tgt := 378) dL_pairs_541 rfl ?_
                                                refine xx_J.pick [0, 4, 1, 5, 6, 7, 8, 9, 10, 11, 12, 13] rfl ?_
                                                rw [nI_1]
                                                exact ih _ _ _ (by omega) (by omega) hC854 hS854 tgn854 tgp854 tgb854 tgf854 tgr854
                                              · exact absurd (by rw [gfy, if_pos h525]) h533
                                            · refine J_iconst (v := 1) dL_pairs_528 (by decide) ?_
                                              refine J_goto (tgt := 533) dL_pairs_529 rfl ?_
                                              refine J_icmp_eq (tgt := 538) dL_pairs_533 rfl (fun h533 => ?_) (fun h533 => ?_)
                                              · refine J_iinc (v := _ + 1) (L' := [(12, _), (9, _), (14, _), (13, _), (10, _), (8, _), (7, _), (6, _), (5, _), (4, _), (3, _), (2, _), (0, _), (1, _)]) dL_pairs_538 rfl rfl (by decide) rfl ?_
                                                refine J_goto (tgt := 378) dL_pairs_541 rfl ?_
                                                refine xx_J.pick [0, 4, 1, 5, 6, 7, 8, 9, 10, 11, 12, 13] rfl ?_
                                                rw [nI_1]
                                                exact ih _ _ _ (by omega) (by omega) hC854 hS854 tgn854 tgp854 tgb854 tgf854 tgr854
                                              · exact absurd (by rw [gfy, if_neg h525]) h533
                                      · exact absurd gby h465
                          refine xx_J.pick [0, 2, 3, 4, 5, 6, 7, 8, 9, 10, 11, 12] rfl ?_
                          exact loop4 0 (Nat.zero_le _) _ _ _ (by omega) (by omega) hC4 hS4 t4gn t4gp t4gb t4gf t4gr
                        · first | (exfalso; simp only [i_lt, i_le, i_eq, i_0, i_1, i_2, i_3, i_4, i_5, i_6, i_8, i_9, i_10, i_12, i_16, i_20, i_m1] at h337; omega) | (exfalso; simp only [s_up, a_up, va_up, i_lt, i_le, i_eq, i_0, i_1, i_2, i_3, i_4, i_5, i_6, i_8, i_9, i_10, i_12, i_16, i_20, i_m1, ↓reduceIte, Nat.reduceEqDiff] at h337; omega)
                      · intro i hii ih  A1 K J hK hJ hC4 hS4 t4gn t4gp t4gb t4gf t4gr
                        have ei : (nI i).toInt = i := i_n (by omega)
                        refine J_iload dL_pairs_334 rfl ?_
                        refine J_iload_n dL_pairs_336 rfl rfl ?_
                        refine J_icmp_ge (tgt := 375) dL_pairs_337 rfl (fun h337 => ?_) (fun h337 => ?_)
                        · first | (exfalso; simp only [i_lt, i_le, i_eq, i_0, i_1, i_2, i_3, i_4, i_5, i_6, i_8, i_9, i_10, i_12, i_16, i_20, i_m1] at h337; omega) | (exfalso; simp only [s_up, a_up, va_up, i_lt, i_le, i_eq, i_0, i_1, i_2, i_3, i_4, i_5, i_6, i_8, i_9, i_10, i_12, i_16, i_20, i_m1, ↓reduceIte, Nat.reduceEqDiff] at h337; omega)
                        · refine J_iload dL_pairs_340 rfl ?_
                          refine J_if_lt (tgt := 369) dL_pairs_342 rfl (fun h342 => ?_) (fun h342 => ?_)
                          · refine J_iinc (v := _ + 1) (L' := [(12, _), (11, _), (10, _), (9, _), (8, _), (7, _), (6, _), (5, _), (4, _), (3, _), (2, _), (0, _), (1, _)]) dL_pairs_369 rfl rfl (by decide) rfl ?_
                            refine J_goto (tgt := 334) dL_pairs_372 rfl ?_
                            rw [nI_1]
                            refine xx_J.pick [0, 1, 2, 3, 4, 5, 6, 7, 8, 9, 10, 11, 12] rfl ?_
                            exact ih _ _ _ (by omega) (by omega) hC4 hS4 t4gn t4gp t4gb t4gf t4gr
                          · refine J_aload_n dL_pairs_345 rfl rfl ?_
                            refine J_iload dL_pairs_346 rfl ?_
                            refine J_callVz (As := [_]) dL_pairs_348 ml_L_194 cal_X6_isIn im_X6_isIn se_X6_isIn (hC4.1.at 0 rfl) rfl rfl rfl (Nat.le_of_ble_eq_true rfl) ⟨by decide, by decide⟩ ⟨by omega, by omega⟩ (c_X6_isIn hst hC4.1 hC4.2.1 _) (lw_q hC4 (an_in hT1 hii)) (fun A728 hQ728 => ?_)
                            have hC728 := hQ728.1
                            have hS728 := hS4.cl hQ728.2
                            have tgb728 := (hQ728.2 _ (Or.inr (by omega))).trans t4gb
                            have tgf728 := (hQ728.2 _ (Or.inr (by omega))).trans t4gf
                            have tgn728 := (hQ728.2 _ (Or.inr (by omega))).trans t4gn
                            have tgp728 := (hQ728.2 _ (Or.inr (by omega))).trans t4gp
                            have tgr728 := (hQ728.2 _ (Or.inr (by omega))).trans t4gr
                            refine J_if_eq (tgt := 369) dL_pairs_351 rfl (fun h351 => ?_) (fun h351 => ?_)
                            · refine J_iinc (v := _ + 1) (L' := [(12, _), (11, _), (10, _), (9, _), (8, _), (7, _), (6, _), (5, _), (4, _), (3, _), (2, _), (0, _), (1, _)]) dL_pairs_369 rfl rfl (by decide) rfl ?_
                              refine J_goto (tgt := 334) dL_pairs_372 rfl ?_
                              rw [nI_1]
                              refine xx_J.pick [0, 1, 2, 3, 4, 5, 6, 7, 8, 9, 10, 11, 12] rfl ?_
                              exact ih _ _ _ (by omega) (by omega) hC728 hS728 tgn728 tgp728 tgb728 tgf728 tgr728
                            · refine J_aload dL_pairs_354 rfl ?_
                              refine J_iload dL_pairs_356 rfl ?_
                              obtain ⟨ω, hω, hre⟩ : ∃ ω, ω < nwV G ∧ rsF F (nwV G) = nI ω := by
                                rcases (prs_ok (F := F) h12).2 with z | z
                                · rw [z] at h342; exact absurd (by decide) h342
                                · exact z
                              refine J_ialdN i dL_pairs_358 tgr728 rfl hii (by omega) ?_
                              rw [(hg i hii).2.2.2.2]
                              refine J_aload dL_pairs_359 rfl ?_
                              refine J_iload dL_pairs_361 rfl ?_
                              refine J_ialdN ω dL_pairs_363 tgr728 hre hω (by omega) ?_
                              rw [(hg ω hω).2.2.2.2]
                              refine J_icmp_ge (tgt := 369) dL_pairs_364 rfl (fun h364 => ?_) (fun h364 => ?_)
                              · refine J_iinc (v := _ + 1) (L' := [(12, _), (11, _), (10, _), (9, _), (8, _), (7, _), (6, _), (5, _), (4, _), (3, _), (2, _), (0, _), (1, _)]) dL_pairs_369 rfl rfl (by decide) rfl ?_
                                refine J_goto (tgt := 334) dL_pairs_372 rfl ?_
                                rw [nI_1]
                                refine xx_J.pick [0, 1, 2, 3, 4, 5, 6, 7, 8, 9, 10, 11, 12] rfl ?_
                                exact ih _ _ _ (by omega) (by omega) hC728 hS728 tgn728 tgp728 tgb728 tgf728 tgr728
                              · exfalso
                                apply h364
                                rw [i_le]
                                refine (i3 ω (by omega) hre).2 i (lup_mem.mpr ⟨hii, fun z => h351 ?_⟩)
                                rw [xx_bf (by rw [h8 i hii, z]; decide)]
                    refine xx_J.pick [0, 1, 2, 3, 4, 5, 6, 7, 8, 9, 10, 11, 12] rfl ?_
                    exact loop3 0 (Nat.zero_le _) _ _ _ (by omega) (by omega) hC8 hS8 t8gn t8gp t8gb t8gf t8gr
                  by_cases hev : len % 2 = 0
                  · refine J_iload dL_pairs_301 rfl ?_
                    refine J_if_lt (tgt := 310) dL_pairs_303 rfl (fun h303 => ?_) (fun h303 => ?_)
                    · refine J_iconst (v := 0) dL_pairs_310 (by decide) ?_
                      refine J_aload_n dL_pairs_311 rfl rfl ?_
                      refine J_callVr (As := []) dL_pairs_312 ml_L_224 cal_X6_wrestlersIn im_X6_wrestlersIn se_X6_wrestlersIn (hC7.1.at 0 rfl) rfl rfl rfl (Nat.le_of_ble_eq_true rfl) ⟨by decide, by decide⟩ ⟨by omega, by omega⟩ (k_in hst hC7) ?_
                      rw [hin1]
                      refine J_iconst (v := 2) dL_pairs_315 (by decide) ?_
                      refine J_irem dL_pairs_316 (by decide) ?_
                      rw [rem2 len (by omega), hev]
                      change xx_J _ _ _ _ _ _ _ _ _ _ (.int 0 :: _) _ _ _ _
                      refine J_iconst (v := 1) dL_pairs_317 (by decide) ?_
                      refine J_icmp_ne (tgt := 325) dL_pairs_318 rfl (fun h318 => ?_) (fun h318 => ?_)
                      · refine J_iconst (v := 0) dL_pairs_325 (by decide) ?_
                        refine J_icmp_eq (tgt := 331) dL_pairs_326 rfl (fun h326 => ?_) (fun h326 => ?_)
                        · refine xx_J.pick [1, 2, 3, 4, 5, 6, 7, 8, 9, 10, 11, 12] rfl ?_
                          exact rest331 _ _ _ (by omega) (by omega) hC7 hS7 t7gn t7gp t7gb t7gf t7gr
                        · first | exact absurd h326 (by decide) | exact absurd (by decide) h326
                      · first | exact absurd h318 (by decide) | exact absurd (by decide) h318
                    · exact absurd (by rw [i4.mpr hev]; decide) h303
                  · refine J_iload dL_pairs_301 rfl ?_
                    refine J_if_lt (tgt := 310) dL_pairs_303 rfl (fun h303 => ?_) (fun h303 => ?_)
                    · exfalso
                      rcases (prs_ok (F := F) h12).2 with z | ⟨w, hw, z⟩
                      · exact hev (i4.mp z)
                      · rw [z, i_lt, i_n (by omega), i_0] at h303; omega
                    · refine J_iconst (v := 1) dL_pairs_306 (by decide) ?_
                      refine J_goto (tgt := 311) dL_pairs_307 rfl ?_
                      refine J_aload_n dL_pairs_311 rfl rfl ?_
                      refine J_callVr (As := []) dL_pairs_312 ml_L_224 cal_X6_wrestlersIn im_X6_wrestlersIn se_X6_wrestlersIn (hC7.1.at 0 rfl) rfl rfl rfl (Nat.le_of_ble_eq_true rfl) ⟨by decide, by decide⟩ ⟨by omega, by omega⟩ (k_in hst hC7) ?_
                      rw [hin1]
                      refine J_iconst (v := 2) dL_pairs_315 (by decide) ?_
                      refine J_irem dL_pairs_316 (by decide) ?_
                      rw [rem2 len (by omega), show len % 2 = 1 by omega]
                      change xx_J _ _ _ _ _ _ _ _ _ _ (.int 1 :: _) _ _ _ _
                      refine J_iconst (v := 1) dL_pairs_317 (by decide) ?_
                      refine J_icmp_ne (tgt := 325) dL_pairs_318 rfl (fun h318 => ?_) (fun h318 => ?_)
                      · first | exact absurd h318 (by decide) | exact absurd (by decide) h318
                      · refine J_iconst (v := 1) dL_pairs_321 (by decide) ?_
                        refine J_goto (tgt := 326) dL_pairs_322 rfl ?_
                        refine J_icmp_eq (tgt := 331) dL_pairs_326 rfl (fun h326 => ?_) (fun h326 => ?_)
                        · refine xx_J.pick [1, 2, 3, 4, 5, 6, 7, 8, 9, 10, 11, 12] rfl ?_
                          exact rest331 _ _ _ (by omega) (by omega) hC7 hS7 t7gn t7gp t7gb t7gf t7gr
                        · first | exact absurd h326 (by decide) | exact absurd (by decide) h326
                · first | (exfalso; simp only [i_lt, i_le, i_eq, i_0, i_1, i_2, i_3, i_4, i_5, i_6, i_8, i_9, i_10, i_12, i_16, i_20, i_m1] at h158; omega) | (exfalso; simp only [s_up, a_up, va_up, i_lt, i_le, i_eq, i_0, i_1, i_2, i_3, i_4, i_5, i_6, i_8, i_9, i_10, i_12, i_16, i_20, i_m1, ↓reduceIte, Nat.reduceEqDiff] at h158; omega)
              · intro i hii ih  A1 K J hK hJ hC7 hS7 t7gn t7gp t7gb t7gf t7gr
                have ei : (nI i).toInt = i := i_n (by omega)
                obtain ⟨on1, on2⟩ := rnd_one (F := F) h12 hii
                refine J_iload dL_pairs_155 rfl ?_
                refine J_iload_n dL_pairs_157 rfl rfl ?_
                refine J_icmp_ge (tgt := 301) dL_pairs_158 rfl (fun h158 => ?_) (fun h158 => ?_)
                · first | (exfalso; simp only [i_lt, i_le, i_eq, i_0, i_1, i_2, i_3, i_4, i_5, i_6, i_8, i_9, i_10, i_12, i_16, i_20, i_m1] at h158; omega) | (exfalso; simp only [s_up, a_up, va_up, i_lt, i_le, i_eq, i_0, i_1, i_2, i_3, i_4, i_5, i_6, i_8, i_9, i_10, i_12, i_16, i_20, i_m1, ↓reduceIte, Nat.reduceEqDiff] at h158; omega)
                · refine J_aload_n dL_pairs_161 rfl rfl ?_
                  refine J_iload dL_pairs_162 rfl ?_
                  refine J_callVz (As := [_]) dL_pairs_164 ml_L_194 cal_X6_isIn im_X6_isIn se_X6_isIn (hC7.1.at 0 rfl) rfl rfl rfl (Nat.le_of_ble_eq_true rfl) ⟨by decide, by decide⟩ ⟨by omega, by omega⟩ (c_X6_isIn hst hC7.1 hC7.2.1 _) (lw_q hC7 (an_in hT1 hii)) (fun A328 hQ328 => ?_)
                  have hC328 := hQ328.1
                  have hS328 := hS7.cl hQ328.2
                  have tgb328 := (hQ328.2 _ (Or.inr (by omega))).trans t7gb
                  have tgf328 := (hQ328.2 _ (Or.inr (by omega))).trans t7gf
                  have tgn328 := (hQ328.2 _ (Or.inr (by omega))).trans t7gn
                  have tgp328 := (hQ328.2 _ (Or.inr (by omega))).trans t7gp
                  have tgr328 := (hQ328.2 _ (Or.inr (by omega))).trans t7gr
                  refine J_if_ne (tgt := 194) dL_pairs_167 rfl (fun h167 => ?_) (fun h167 => ?_)
                  · have hin0 : ¬ F.2 2 (8 * 12 + i) = 0 := fun z => h167 (by rw [xx_bf (by rw [h8 i hii, z]; decide)])
                    refine J_aload_n dL_pairs_194 rfl rfl ?_
                    refine J_iload dL_pairs_195 rfl ?_
                    refine J_ialdN i dL_pairs_197 tgn328 rfl hii (by omega) ?_
                    rw [(hg i hii).1]
                    refine J_iconst (v := -1) dL_pairs_198 (by decide) ?_
                    refine J_icmp_ne (tgt := 255) dL_pairs_199 rfl (fun h199 => ?_) (fun h199 => ?_)
                    · have hx9 : ¬ rsF F (nwV G) = nI i ∧ ∃ v q, v < nwV G ∧ q < np ∧ rivN F (nwV G) (nI i) = nI v ∧ rivN F (nwV G) (nI v) = nI i ∧ ((p1F F (nwV G) q = i ∧ p2F F (nwV G) q = v) ∨ (p1F F (nwV G) q = v ∧ p2F F (nwV G) q = i)) := by
                        rcases on2 hin0 with ⟨z, -⟩ | z
                        · exact absurd z h199
                        · rw [hnp]; exact z
                      obtain ⟨hnr, v, q, hv, hq, hr1, hr2, hpp⟩ := hx9
                      obtain ⟨x, y, hx, hy, hxy, hxx, g4, g5, -⟩ := fa q hq
                      have eop : aOpp np F1 (nI i) = (0, nI v) := by
                        obtain ⟨o1, o2⟩ := an_opp hT1 hq
                        rw [g4, g5] at o1 o2
                        rcases hxx with ⟨z1, z2⟩ | ⟨z1, z2⟩ <;> rcases hpp with ⟨y1, y2⟩ | ⟨y1, y2⟩ <;> simp only [y1, y2] at z1 z2 <;> subst z1 <;> subst z2 <;> first | exact o1 | exact o2
                      refine J_aload_n dL_pairs_255 rfl rfl ?_
                      refine J_aload_n dL_pairs_256 rfl rfl ?_
                      refine J_iload dL_pairs_257 rfl ?_
                      refine J_ialdN i dL_pairs_259 tgn328 rfl hii (by omega) ?_
                      rw [(hg i hii).1, hr1]
                      refine J_ialdN v dL_pairs_260 tgn328 rfl hv (by omega) ?_
                      rw [(hg v hv).1, hr2]
                      refine J_iload dL_pairs_261 rfl ?_
                      refine J_icmp_ne (tgt := 293) dL_pairs_263 rfl (fun h263 => ?_) (fun h263 => ?_)
                      · exact absurd rfl h263
                      · refine J_aload_n dL_pairs_266 rfl rfl ?_
                        refine J_iload dL_pairs_267 rfl ?_
                        refine J_callVz (As := [_]) dL_pairs_269 ml_L_266 cal_X6_opponentOf im_X6_opponentOf se_X6_opponentOf (hC328.1.at 0 rfl) rfl rfl rfl (Nat.le_of_ble_eq_true rfl) ⟨by decide, by decide⟩ ⟨by omega, by omega⟩ (c_X6_opponentOf hst hC328.1 hC328.2.1 _) (lw_q hC328 (eop)) (fun A329 hQ329 => ?_)
                        have hC329 := hQ329.1
                        have hS329 := hS328.cl hQ329.2
                        have tgb329 := (hQ329.2 _ (Or.inr (by omega))).trans tgb328
                        have tgf329 := (hQ329.2 _ (Or.inr (by omega))).trans tgf328
                        have tgn329 := (hQ329.2 _ (Or.inr (by omega))).trans tgn328
                        have tgp329 := (hQ329.2 _ (Or.inr (by omega))).trans tgp328
                        have tgr329 := (hQ329.2 _ (Or.inr (by omega))).trans tgr328
                        refine J_aload_n dL_pairs_272 rfl rfl ?_
                        refine J_iload dL_pairs_273 rfl ?_
                        refine J_ialdN i dL_pairs_275 tgn329 rfl hii (by omega) ?_
                        rw [(hg i hii).1, hr1]
                        refine J_icmp_ne (tgt := 293) dL_pairs_276 rfl (fun h276 => ?_) (fun h276 => ?_)
                        · exact absurd rfl h276
                        · refine J_aload_n dL_pairs_279 rfl rfl ?_
                          refine J_iload dL_pairs_280 rfl ?_
                          refine J_callVz (As := [_]) dL_pairs_282 ml_L_215 cal_X6_restsOf im_X6_restsOf se_X6_restsOf (hC329.1.at 0 rfl) rfl rfl rfl (Nat.le_of_ble_eq_true rfl) ⟨by decide, by decide⟩ ⟨by omega, by omega⟩ (c_X6_restsOf hst hC329.1 hC329.2.1 _) (lw_q hC329 (an_of hT1 hii)) (fun A330 hQ330 => ?_)
                          have hC330 := hQ330.1
                          have hS330 := hS329.cl hQ330.2
                          have tgb330 := (hQ330.2 _ (Or.inr (by omega))).trans tgb329
                          have tgf330 := (hQ330.2 _ (Or.inr (by omega))).trans tgf329
                          have tgn330 := (hQ330.2 _ (Or.inr (by omega))).trans tgn329
                          have tgp330 := (hQ330.2 _ (Or.inr (by omega))).trans tgp329
                          have tgr330 := (hQ330.2 _ (Or.inr (by omega))).trans tgr329
                          refine J_aload dL_pairs_285 rfl ?_
                          refine J_iload dL_pairs_287 rfl ?_
                          refine J_ialdN i dL_pairs_289 tgr330 rfl hii (by omega) ?_
                          rw [(hg i hii).2.2.2.2]
                          refine J_icmp_eq (tgt := 295) dL_pairs_290 rfl (fun h290 => ?_) (fun h290 => ?_)
                          · refine J_iinc (v := _ + 1) (L' := [(12, _), (11, _), (10, _), (9, _), (8, _), (7, _), (6, _), (5, _), (4, _), (3, _), (2, _), (0, _), (1, _)]) dL_pairs_295 rfl rfl (by decide) rfl ?_
                            refine J_goto (tgt := 155) dL_pairs_298 rfl ?_
                            refine xx_J.pick [0, 1, 2, 3, 4, 5, 6, 7, 8, 9, 10, 11, 12] rfl ?_
                            rw [nI_1]
                            rw [← rzF_n (F := F) h12 (by omega) hnr]
                            exact ih _ _ _ (by omega) (by omega) hC330 hS330 tgn330 tgp330 tgb330 tgf330 tgr330
                          · exact absurd (by rw [h5 i hii, if_neg hnr]; grind) h290
                    · have hre : rsF F (nwV G) = nI i := by
                        rcases on2 hin0 with ⟨-, z⟩ | ⟨-, v, q, hv, -, z, -⟩
                        · exact z
                        · rw [z] at h199; exact absurd h199 (nI_m1 (by omega))
                      refine J_iload dL_pairs_202 rfl ?_
                      refine J_if_ge (tgt := 246) dL_pairs_204 rfl (fun h204 => ?_) (fun h204 => ?_)
                      · exfalso
                        rw [(rzF_y (by omega) hre).1] at h204
                        exact absurd h204 (by decide)
                      · refine J_aload_n dL_pairs_207 rfl rfl ?_
                        refine J_callVz (As := []) dL_pairs_208 ml_L_263 cal_X6_restingOne im_X6_restingOne se_X6_restingOne (hC328.1.at 0 rfl) rfl rfl rfl (Nat.le_of_ble_eq_true rfl) ⟨by decide, by decide⟩ ⟨by omega, by omega⟩ (c_X6_restingOne hst hC328.1 hC328.2.1) (lw_q hC328 (show aRst F1 = (0, rsF F (nwV G)) from by unfold aRst; rw [h9r, if_neg (by rw [hre]; exact nI_m1 (by omega))])) (fun A331 hQ331 => ?_)
                        have hC331 := hQ331.1
                        have hS331 := hS328.cl hQ331.2
                        have tgb331 := (hQ331.2 _ (Or.inr (by omega))).trans tgb328
                        have tgf331 := (hQ331.2 _ (Or.inr (by omega))).trans tgf328
                        have tgn331 := (hQ331.2 _ (Or.inr (by omega))).trans tgn328
                        have tgp331 := (hQ331.2 _ (Or.inr (by omega))).trans tgp328
                        have tgr331 := (hQ331.2 _ (Or.inr (by omega))).trans tgr328
                        refine J_iload dL_pairs_211 rfl ?_
                        refine J_icmp_ne (tgt := 246) dL_pairs_213 rfl (fun h213 => ?_) (fun h213 => ?_)
                        · exact absurd hre h213
                        · refine J_aload_n dL_pairs_216 rfl rfl ?_
                          refine J_iload dL_pairs_217 rfl ?_
                          refine J_callVz (As := [_]) dL_pairs_219 ml_L_215 cal_X6_restsOf im_X6_restsOf se_X6_restsOf (hC331.1.at 0 rfl) rfl rfl rfl (Nat.le_of_ble_eq_true rfl) ⟨by decide, by decide⟩ ⟨by omega, by omega⟩ (c_X6_restsOf hst hC331.1 hC331.2.1 _) (lw_q hC331 (an_of hT1 hii)) (fun A332 hQ332 => ?_)
                          have hC332 := hQ332.1
                          have hS332 := hS331.cl hQ332.2
                          have tgb332 := (hQ332.2 _ (Or.inr (by omega))).trans tgb331
                          have tgf332 := (hQ332.2 _ (Or.inr (by omega))).trans tgf331
                          have tgn332 := (hQ332.2 _ (Or.inr (by omega))).trans tgn331
                          have tgp332 := (hQ332.2 _ (Or.inr (by omega))).trans tgp331
                          have tgr332 := (hQ332.2 _ (Or.inr (by omega))).trans tgr331
                          refine J_aload dL_pairs_222 rfl ?_
                          refine J_iload dL_pairs_224 rfl ?_
                          refine J_ialdN i dL_pairs_226 tgr332 rfl hii (by omega) ?_
                          rw [(hg i hii).2.2.2.2]
                          refine J_iconst (v := 1) dL_pairs_227 (by decide) ?_
                          refine J_iadd dL_pairs_228 ?_
                          refine J_icmp_ne (tgt := 246) dL_pairs_229 rfl (fun h229 => ?_) (fun h229 => ?_)
                          · exact absurd (by rw [h5 i hii, if_pos hre]) h229
                          · refine J_aload_n dL_pairs_232 rfl rfl ?_
                            refine J_iload dL_pairs_233 rfl ?_
                            refine J_callVz (As := [_]) dL_pairs_235 ml_L_200 cal_X6_pointsOf im_X6_pointsOf se_X6_pointsOf (hC332.1.at 0 rfl) rfl rfl rfl (Nat.le_of_ble_eq_true rfl) ⟨by decide, by decide⟩ ⟨by omega, by omega⟩ (c_X6_pointsOf hst hC332.1 hC332.2.1 _) (lw_q hC332 (an_of hT1 hii)) (fun A333 hQ333 => ?_)
                            have hC333 := hQ333.1
                            have hS333 := hS332.cl hQ333.2
                            have tgb333 := (hQ333.2 _ (Or.inr (by omega))).trans tgb332
                            have tgf333 := (hQ333.2 _ (Or.inr (by omega))).trans tgf332
                            have tgn333 := (hQ333.2 _ (Or.inr (by omega))).trans tgn332
                            have tgp333 := (hQ333.2 _ (Or.inr (by omega))).trans tgp332
                            have tgr333 := (hQ333.2 _ (Or.inr (by omega))).trans tgr332
                            refine J_aload dL_pairs_238 rfl ?_
                            refine J_iload dL_pairs_240 rfl ?_
                            refine J_ialdN i dL_pairs_242 tgp333 rfl hii (by omega) ?_
                            rw [(hg i hii).2.1]
                            refine J_icmp_ge (tgt := 248) dL_pairs_243 rfl (fun h243 => ?_) (fun h243 => ?_)
                            · refine J_iload dL_pairs_248 rfl ?_
                              refine J_istore (L' := [(11, _), (12, _), (10, _), (9, _), (8, _), (7, _), (6, _), (5, _), (4, _), (3, _), (2, _), (0, _), (1, _)]) dL_pairs_250 (by decide) rfl ?_
                              refine J_goto (tgt := 295) dL_pairs_252 rfl ?_
                              refine J_iinc (v := _ + 1) (L' := [(12, _), (11, _), (10, _), (9, _), (8, _), (7, _), (6, _), (5, _), (4, _), (3, _), (2, _), (0, _), (1, _)]) dL_pairs_295 rfl rfl (by decide) rfl ?_
                              refine J_goto (tgt := 155) dL_pairs_298 rfl ?_
                              refine xx_J.pick [0, 1, 2, 3, 4, 5, 6, 7, 8, 9, 10, 11, 12] rfl ?_
                              rw [nI_1]
                              rw [← (rzF_y (F := F) (nw := nwV G) (by omega) hre).2]
                              exact ih _ _ _ (by omega) (by omega) hC333 hS333 tgn333 tgp333 tgb333 tgf333 tgr333
                            · exfalso
                              apply h243
                              rw [h1p i hii, if_pos hre, i_le]
                              obtain ⟨g1, g2⟩ := hT.2.1.2.2.2.1 i hii
                              obtain ⟨g3, g4⟩ := hT.2.1.2.2.2.2.2.1 2 (by omega)
                              rw [add_i (by omega) (by omega)]
                              omega
                  · have hin0 : F.2 2 (8 * 12 + i) = 0 := Classical.byContradiction fun z => absurd h167 (by rw [xx_bt (by rw [h8 i hii]; exact z)]; decide)
                    refine J_aload_n dL_pairs_170 rfl rfl ?_
                    refine J_iload dL_pairs_171 rfl ?_
                    refine J_ialdN i dL_pairs_173 tgn328 rfl hii (by omega) ?_
                    rw [(hg i hii).1]
                    refine J_iconst (v := -1) dL_pairs_174 (by decide) ?_
                    refine J_icmp_ne (tgt := 192) dL_pairs_175 rfl (fun h175 => ?_) (fun h175 => ?_)
                    · exact absurd (on1 hin0).1 h175
                    · refine J_aload_n dL_pairs_178 rfl rfl ?_
                      refine J_iload dL_pairs_179 rfl ?_
                      refine J_callVz (As := [_]) dL_pairs_181 ml_L_215 cal_X6_restsOf im_X6_restsOf se_X6_restsOf (hC328.1.at 0 rfl) rfl rfl rfl (Nat.le_of_ble_eq_true rfl) ⟨by decide, by decide⟩ ⟨by omega, by omega⟩ (c_X6_restsOf hst hC328.1 hC328.2.1 _) (lw_q hC328 (an_of hT1 hii)) (fun A334 hQ334 => ?_)
                      have hC334 := hQ334.1
                      have hS334 := hS328.cl hQ334.2
                      have tgb334 := (hQ334.2 _ (Or.inr (by omega))).trans tgb328
                      have tgf334 := (hQ334.2 _ (Or.inr (by omega))).trans tgf328
                      have tgn334 := (hQ334.2 _ (Or.inr (by omega))).trans tgn328
                      have tgp334 := (hQ334.2 _ (Or.inr (by omega))).trans tgp328
                      have tgr334 := (hQ334.2 _ (Or.inr (by omega))).trans tgr328
                      refine J_aload dL_pairs_184 rfl ?_
                      refine J_iload dL_pairs_186 rfl ?_
                      refine J_ialdN i dL_pairs_188 tgr334 rfl hii (by omega) ?_
                      rw [(hg i hii).2.2.2.2]
                      refine J_icmp_eq (tgt := 295) dL_pairs_189 rfl (fun h189 => ?_) (fun h189 => ?_)
                      · refine J_iinc (v := _ + 1) (L' := [(12, _), (11, _), (10, _), (9, _), (8, _), (7, _), (6, _), (5, _), (4, _), (3, _), (2, _), (0, _), (1, _)]) dL_pairs_295 rfl rfl (by decide) rfl ?_
                        refine J_goto (tgt := 155) dL_pairs_298 rfl ?_
                        refine xx_J.pick [0, 1, 2, 3, 4, 5, 6, 7, 8, 9, 10, 11, 12] rfl ?_
                        rw [nI_1]
                        rw [← rzF_n (F := F) h12 (by omega) (on1 hin0).2]
                        exact ih _ _ _ (by omega) (by omega) hC334 hS334 tgn334 tgp334 tgb334 tgf334 tgr334
                      · exact absurd (by rw [h5 i hii, if_neg (on1 hin0).2]; grind) h189
            refine xx_J.pick [0, 1, 2, 3, 4, 5, 6, 7, 8, 9, 10, 11, 12] rfl ?_
            rw [← rzF_0 (F := F) (nw := nwV G)]
            exact loop2 0 (Nat.zero_le _) _ _ _ (by omega) (by omega) hC6 hS6 t6gn t6gp t6gb t6gf t6gr
          · exact absurd rfl h144
      · first | (exfalso; simp only [i_lt, i_le, i_eq, i_0, i_1, i_2, i_3, i_4, i_5, i_6, i_8, i_9, i_10, i_12, i_16, i_20, i_m1] at h35; omega) | (exfalso; simp only [s_up, a_up, va_up, i_lt, i_le, i_eq, i_0, i_1, i_2, i_3, i_4, i_5, i_6, i_8, i_9, i_10, i_12, i_16, i_20, i_m1, ↓reduceIte, Nat.reduceEqDiff] at h35; omega)
    · intro i hii ih n2  gn gp gb gf gr  A1 K J hK hJ hn2 hC3 hS3 t3gn t3gp t3gb t3gf t3gr hg
      have ei : (nI i).toInt = i := i_n (by omega)
      refine J_iload dL_pairs_32 rfl ?_
      refine J_iload_n dL_pairs_34 rfl rfl ?_
      refine J_icmp_ge (tgt := 108) dL_pairs_35 rfl (fun h35 => ?_) (fun h35 => ?_)
      · first | (exfalso; simp only [i_lt, i_le, i_eq, i_0, i_1, i_2, i_3, i_4, i_5, i_6, i_8, i_9, i_10, i_12, i_16, i_20, i_m1] at h35; omega) | (exfalso; simp only [s_up, a_up, va_up, i_lt, i_le, i_eq, i_0, i_1, i_2, i_3, i_4, i_5, i_6, i_8, i_9, i_10, i_12, i_16, i_20, i_m1, ↓reduceIte, Nat.reduceEqDiff] at h35; omega)
      · refine J_aload dL_pairs_38 rfl ?_
        refine J_iload dL_pairs_40 rfl ?_
        refine J_aload_n dL_pairs_42 rfl rfl ?_
        refine J_iload dL_pairs_43 rfl ?_
        refine J_callVz (As := [_]) dL_pairs_45 ml_L_200 cal_X6_pointsOf im_X6_pointsOf se_X6_pointsOf (hC3.1.at 0 rfl) rfl rfl rfl (Nat.le_of_ble_eq_true rfl) ⟨by decide, by decide⟩ ⟨by omega, by omega⟩ (c_X6_pointsOf hst hC3.1 hC3.2.1 _) (lw_q hC3 (an_of hT hii)) (fun A206 hQ206 => ?_)
        have hC206 := hQ206.1
        have hS206 := hS3.cl hQ206.2
        have tgb206 := (hQ206.2 _ (Or.inr (by omega))).trans t3gb
        have tgf206 := (hQ206.2 _ (Or.inr (by omega))).trans t3gf
        have tgn206 := (hQ206.2 _ (Or.inr (by omega))).trans t3gn
        have tgp206 := (hQ206.2 _ (Or.inr (by omega))).trans t3gp
        have tgr206 := (hQ206.2 _ (Or.inr (by omega))).trans t3gr
        refine J_iastQ i dL_pairs_48 tgp206 rfl (by omega) (by omega) (fun A207 g207 o207 => ?_)
        have hC207 := hC206.up (fun z hz => o207 z (by omega))
        have hS207 := hS206.wr (fun z hz => o207 z (by omega))
        have tgb207 := (o207 _ (by omega)).trans tgb206
        have tgf207 := (o207 _ (by omega)).trans tgf206
        have tgn207 := (o207 _ (by omega)).trans tgn206
        have tgr207 := (o207 _ (by omega)).trans tgr206
        refine J_aload dL_pairs_49 rfl ?_
        refine J_iload dL_pairs_51 rfl ?_
        refine J_aload_n dL_pairs_53 rfl rfl ?_
        refine J_iload dL_pairs_54 rfl ?_
        refine J_callVz (As := [_]) dL_pairs_56 ml_L_191 cal_X6_beltsOf im_X6_beltsOf se_X6_beltsOf (hC207.1.at 0 rfl) rfl rfl rfl (Nat.le_of_ble_eq_true rfl) ⟨by decide, by decide⟩ ⟨by omega, by omega⟩ (c_X6_beltsOf hst hC207.1 hC207.2.1 _) (lw_q hC207 (an_of hT hii)) (fun A208 hQ208 => ?_)
        have hC208 := hQ208.1
        have hS208 := hS207.cl hQ208.2
        have tgb208 := (hQ208.2 _ (Or.inr (by omega))).trans tgb207
        have tgf208 := (hQ208.2 _ (Or.inr (by omega))).trans tgf207
        have tgn208 := (hQ208.2 _ (Or.inr (by omega))).trans tgn207
        have tgp208 := (hQ208.2 _ (Or.inr (by omega))).trans g207
        have tgr208 := (hQ208.2 _ (Or.inr (by omega))).trans tgr207
        refine J_iastQ i dL_pairs_59 tgb208 rfl (by omega) (by omega) (fun A209 g209 o209 => ?_)
        have hC209 := hC208.up (fun z hz => o209 z (by omega))
        have hS209 := hS208.wr (fun z hz => o209 z (by omega))
        have tgf209 := (o209 _ (by omega)).trans tgf208
        have tgn209 := (o209 _ (by omega)).trans tgn208
        have tgp209 := (o209 _ (by omega)).trans tgp208
        have tgr209 := (o209 _ (by omega)).trans tgr208
        refine J_aload dL_pairs_60 rfl ?_
        refine J_iload dL_pairs_62 rfl ?_
        refine J_aload_n dL_pairs_64 rfl rfl ?_
        refine J_iload dL_pairs_65 rfl ?_
        refine J_callVz (As := [_]) dL_pairs_67 ml_L_218 cal_X6_floatsOf im_X6_floatsOf se_X6_floatsOf (hC209.1.at 0 rfl) rfl rfl rfl (Nat.le_of_ble_eq_true rfl) ⟨by decide, by decide⟩ ⟨by omega, by omega⟩ (c_X6_floatsOf hst hC209.1 hC209.2.1 _) (lw_q hC209 (an_of hT hii)) (fun A210 hQ210 => ?_)
        have hC210 := hQ210.1
        have hS210 := hS209.cl hQ210.2
        have tgb210 := (hQ210.2 _ (Or.inr (by omega))).trans g209
        have tgf210 := (hQ210.2 _ (Or.inr (by omega))).trans tgf209
        have tgn210 := (hQ210.2 _ (Or.inr (by omega))).trans tgn209
        have tgp210 := (hQ210.2 _ (Or.inr (by omega))).trans tgp209
        have tgr210 := (hQ210.2 _ (Or.inr (by omega))).trans tgr209
        refine J_iastQ i dL_pairs_70 tgf210 rfl (by omega) (by omega) (fun A211 g211 o211 => ?_)
        have hC211 := hC210.up (fun z hz => o211 z (by omega))
        have hS211 := hS210.wr (fun z hz => o211 z (by omega))
        have tgb211 := (o211 _ (by omega)).trans tgb210
        have tgn211 := (o211 _ (by omega)).trans tgn210
        have tgp211 := (o211 _ (by omega)).trans tgp210
        have tgr211 := (o211 _ (by omega)).trans tgr210
        refine J_aload dL_pairs_71 rfl ?_
        refine J_iload dL_pairs_73 rfl ?_
        refine J_aload_n dL_pairs_75 rfl rfl ?_
        refine J_iload dL_pairs_76 rfl ?_
        refine J_callVz (As := [_]) dL_pairs_78 ml_L_215 cal_X6_restsOf im_X6_restsOf se_X6_restsOf (hC211.1.at 0 rfl) rfl rfl rfl (Nat.le_of_ble_eq_true rfl) ⟨by decide, by decide⟩ ⟨by omega, by omega⟩ (c_X6_restsOf hst hC211.1 hC211.2.1 _) (lw_q hC211 (an_of hT hii)) (fun A212 hQ212 => ?_)
        have hC212 := hQ212.1
        have hS212 := hS211.cl hQ212.2
        have tgb212 := (hQ212.2 _ (Or.inr (by omega))).trans tgb211
        have tgf212 := (hQ212.2 _ (Or.inr (by omega))).trans g211
        have tgn212 := (hQ212.2 _ (Or.inr (by omega))).trans tgn211
        have tgp212 := (hQ212.2 _ (Or.inr (by omega))).trans tgp211
        have tgr212 := (hQ212.2 _ (Or.inr (by omega))).trans tgr211
        refine J_iastQ i dL_pairs_81 tgr212 rfl (by omega) (by omega) (fun A213 g213 o213 => ?_)
        have hC213 := hC212.up (fun z hz => o213 z (by omega))
        have hS213 := hS212.wr (fun z hz => o213 z (by omega))
        have tgb213 := (o213 _ (by omega)).trans tgb212
        have tgf213 := (o213 _ (by omega)).trans tgf212
        have tgn213 := (o213 _ (by omega)).trans tgn212
        have tgp213 := (o213 _ (by omega)).trans tgp212
        refine J_aload_n dL_pairs_82 rfl rfl ?_
        refine J_iload dL_pairs_83 rfl ?_
        refine J_aload_n dL_pairs_85 rfl rfl ?_
        refine J_iload dL_pairs_86 rfl ?_
        by_cases hrv : rivN F (nwV G) (nI i) = -1
        · have ean : aNxt (nwV G) nb F (nI i) = (2, 0) := by unfold aNxt; rw [if_pos (okW_n hT hii).1, if_pos hcan, if_pos hrv]
          refine J_callVt [] ⟨82, 92, 95, 152⟩ [] (As := [_]) dL_pairs_88 ml_L_257 cal_X6_nextOpponentOf im_X6_nextOpponentOf se_X6_nextOpponentOf (hC213.1.at 0 rfl) rfl rfl rfl (Nat.le_of_ble_eq_true rfl) ⟨by decide, by decide⟩ ⟨by omega, by omega⟩ (c_X6_nextOpponentOf hst hC213.1 hC213.2.1 _) (lw_x hC213 ean (by decide) rfl rfl) rfl rfl (by decide) (by decide) cl_L_152 ca_IS (fun A9 hQ9 => ?_)
          have hC9 := hQ9.1
          have hS9 := hS213.cl hQ9.2
          have tgb9 := (hQ9.2 _ (Or.inr (by omega))).trans tgb213
          have tgf9 := (hQ9.2 _ (Or.inr (by omega))).trans tgf213
          have tgn9 := (hQ9.2 _ (Or.inr (by omega))).trans tgn213
          have tgp9 := (hQ9.2 _ (Or.inr (by omega))).trans tgp213
          have tgr9 := (hQ9.2 _ (Or.inr (by omega))).trans g213
          refine J_astore (L' := [(9, _), (8, _), (7, _), (6, _), (5, _), (4, _), (3, _), (2, _), (0, _), (1, _)]) dL_pairs_95 (by decide) rfl ?_
          refine J_aload_n dL_pairs_97 rfl rfl ?_
          refine J_iload dL_pairs_98 rfl ?_
          refine J_iconst (v := -1) dL_pairs_100 (by decide) ?_
          refine J_iastQ i dL_pairs_101 tgn9 rfl (by omega) (by omega) (fun A901 g901 o901 => ?_)
          have hC901 := hC9.up (fun z hz => o901 z (by omega))
          have hS901 := hS9.wr (fun z hz => o901 z (by omega))
          have tgb901 := (o901 _ (by omega)).trans tgb9
          have tgf901 := (o901 _ (by omega)).trans tgf9
          have tgp901 := (o901 _ (by omega)).trans tgp9
          have tgr901 := (o901 _ (by omega)).trans tgr9
          refine J_iinc (v := _ + 1) (L' := [(8, _), (9, _), (7, _), (6, _), (5, _), (4, _), (3, _), (2, _), (0, _), (1, _)]) dL_pairs_102 rfl rfl (by decide) rfl ?_
          refine J_goto (tgt := 32) dL_pairs_105 rfl ?_
          refine xx_J.pick [0, 2, 3, 4, 5, 6, 7, 8, 9] rfl ?_
          rw [nI_1]
          exact ih _ _ _ _ _ _ _ _ _ (by omega) (by omega) (by omega) hC901 hS901 g901 tgp901 tgb901 tgf901 tgr901 (fun p hp => by
            by_cases c : p = i
            · subst c
              rw [pk_us, pk_us, pk_us, pk_us, pk_us]
              exact ⟨hrv.symm, rfl, rfl, rfl, rfl⟩
            · rw [pk_un c, pk_un c, pk_un c, pk_un c, pk_un c]
              exact hg p (by omega))
        · have ean : aNxt (nwV G) nb F (nI i) = (0, rivN F (nwV G) (nI i)) := by unfold aNxt; rw [if_pos (okW_n hT hii).1, if_pos hcan, if_neg hrv]
          refine J_callVz (As := [_]) dL_pairs_88 ml_L_257 cal_X6_nextOpponentOf im_X6_nextOpponentOf se_X6_nextOpponentOf (hC213.1.at 0 rfl) rfl rfl rfl (Nat.le_of_ble_eq_true rfl) ⟨by decide, by decide⟩ ⟨by omega, by omega⟩ (c_X6_nextOpponentOf hst hC213.1 hC213.2.1 _) (lw_q hC213 (ean)) (fun A951 hQ951 => ?_)
          have hC951 := hQ951.1
          have hS951 := hS213.cl hQ951.2
          have tgb951 := (hQ951.2 _ (Or.inr (by omega))).trans tgb213
          have tgf951 := (hQ951.2 _ (Or.inr (by omega))).trans tgf213
          have tgn951 := (hQ951.2 _ (Or.inr (by omega))).trans tgn213
          have tgp951 := (hQ951.2 _ (Or.inr (by omega))).trans tgp213
          have tgr951 := (hQ951.2 _ (Or.inr (by omega))).trans g213
          refine J_iastQ i dL_pairs_91 tgn951 rfl (by omega) (by omega) (fun A952 g952 o952 => ?_)
          have hC952 := hC951.up (fun z hz => o952 z (by omega))
          have hS952 := hS951.wr (fun z hz => o952 z (by omega))
          have tgb952 := (o952 _ (by omega)).trans tgb951
          have tgf952 := (o952 _ (by omega)).trans tgf951
          have tgp952 := (o952 _ (by omega)).trans tgp951
          have tgr952 := (o952 _ (by omega)).trans tgr951
          refine J_goto (tgt := 102) dL_pairs_92 rfl ?_
          refine J_iinc (v := _ + 1) (L' := [(8, _), (7, _), (6, _), (5, _), (4, _), (3, _), (2, _), (0, _), (1, _)]) dL_pairs_102 rfl rfl (by decide) rfl ?_
          refine J_goto (tgt := 32) dL_pairs_105 rfl ?_
          refine xx_J.pick [0, 1, 2, 3, 4, 5, 6, 7, 8] rfl ?_
          rw [nI_1]
          exact ih _ _ _ _ _ _ _ _ _ (by omega) (by omega) (by omega) hC952 hS952 g952 tgp952 tgb952 tgf952 tgr952 (fun p hp => by
            by_cases c : p = i
            · subst c
              rw [pk_us, pk_us, pk_us, pk_us, pk_us]
              exact ⟨rfl, rfl, rfl, rfl, rfl⟩
            · rw [pk_un c, pk_un c, pk_un c, pk_un c, pk_un c]
              exact hg p (by omega))
  refine xx_J.pick [0, 1, 2, 3, 4, 5, 6, 7, 8] rfl ?_
  exact loop1 0 (Nat.zero_le _) (n + 5) _ _ _ _ _ _ _ _ (by omega) (by omega) (by omega) hC5 hS5 tgn5 tgp5 tgb5 tgf5 g5 (fun p hp => absurd hp (Nat.not_lt_zero p))
end XLP
