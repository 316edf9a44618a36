/-! THE LAW: a turn of its loop -/
section XLL
variable {G : xx_G} {l : Launch} {A A1 : xx_H} {n m : Nat} {k j i q s e t d b h tx : Nat} {S : sS} {F : xS} {nb r : Nat}
abbrev mL_law : xx_M := (RL, "law", cL_law, 18, some .boolean, [])
def lawP : xx_Q := fun r' _ _ => r' = .inl (some (.int 1))
theorem tlP_8 {ru : xS → Nat → Nat → Int32} {nw : Nat} (h12 : nw ≤ 12) (hb : bdV F nw nb) : ∀ d x (X : xS) (c : Int32), x + d = nb → X.2 4 = F.2 4 → X.2 5 = F.2 5 → (∀ w, w < nw → X.2 2 (8 * 12 + w) = F.2 2 (8 * 12 + w)) → ∀ w, w < nw → (tlP ru d x X c).1.2 2 (8 * 12 + w) = F.2 2 (8 * 12 + w) := by
  intro d
  induction d with
  | zero => intro x X c _ _ _ h8 w hw; exact h8 w hw
  | succ d ih =>
    intro x X c hx k4 k5 h8 w hw
    obtain ⟨a, b, ga, ha, gb, hb2, hab⟩ := hb x (by omega)
    have ca : (F.2 4 x).toNatClampNeg = a := by rw [ga]; exact nI_clamp (by omega)
    have cb : (F.2 5 x).toNatClampNeg = b := by rw [gb]; exact nI_clamp (by omega)
    have hstep : tlP ru (d + 1) x X c = if X.2 6 x = -1 then tlP ru d (x + 1) (tellF X x (X.2 4 x).toNatClampNeg (X.2 5 x).toNatClampNeg (ru X (X.2 4 x).toNatClampNeg (X.2 5 x).toNatClampNeg)) (c + (if ru X (X.2 4 x).toNatClampNeg (X.2 5 x).toNatClampNeg = 0 then 1 else 0)) else tlP ru d (x + 1) X c := rfl
    rw [hstep, k4, k5, ca, cb]
    by_cases ho : X.2 6 x = -1
    · rw [if_pos ho]
      obtain ⟨f1, f2, f3⟩ := tellF_k (F := X) (q := x) (i := a) (j := b) (v := ru X a b)
      exact ih (x + 1) _ _ (by omega) ((f2 4 (by omega) (by omega)).trans k4) ((f2 5 (by omega) (by omega)).trans k5) (fun v hv => by rw [tell_in (by omega) (by omega) (by omega) (by omega) (by omega) (by omega) (by omega)]; exact h8 v hv) w hw
    · rw [if_neg ho]
      exact ih (x + 1) X c (by omega) k4 k5 h8 w hw
theorem neg_n {x : Nat} (hx : x < 2 ^ 31) : (-(nI x)).toInt = -(x : Int) := by
  rw [Int32.toInt_neg, i_n hx]
  exact bm_of (by omega) (by omega)
theorem lcmp_0 (x : Int64) : lg_cmp x x = 0 := by
  unfold lg_cmp
  simp
theorem an_lead (hT : tiS S F (nwV G) nb r) {x : Nat} (h1 : 1 ≤ x) (h2 : x ≤ 10) : aLead (ruG G) (nwV G) nb F (nI x) = (0, nI ((lsF (gaF (ruG G) (nwV G) nb x F) (nwV G)).getD 0 0)) := by
  have hw := nwV_lt (G := G)
  unfold aLead
  rw [if_pos ⟨by rw [i_le, i_n (by omega), i_1]; omega, by rw [i_le, i_n (by omega), i_10]; omega⟩, if_neg (by rw [hT.2.1.1.1, i_eq, i_n (by omega), i_0]; omega), wi_nI (by omega)]
theorem an_pta (hT : tiS S F (nwV G) nb r) {w x : Nat} (hw : w < nwV G) (h1 : 1 ≤ x) (h2 : x ≤ 10) : aPtA (ruG G) (nwV G) nb F (nI w) (nI x) = (0, (gaF (ruG G) (nwV G) nb x F).2 2 (1 * 12 + w)) := by
  obtain ⟨o1, o2⟩ := okW_n hT hw
  unfold aPtA
  rw [if_pos o1, if_pos ⟨by rw [i_le, i_n (by omega), i_1]; omega, by rw [i_le, i_n (by omega), i_10]; omega⟩, o2, wi_nI (by omega)]
set_option maxRecDepth 100000 in
set_option maxHeartbeats 8000000 in
theorem law_E (hst : l.stackTraces = false) {GA : xS} {lead u K0 J0 : Nat} {inn : Int32} (hlead : lead = (lsF GA (nwV G)).getD 0 0) (hu : 1 ≤ u ∧ u ≤ 3) (next : ∀ S F nb r A' n' K' J', cI G b F nb r A' → sI G b h S A' → tiS S F (nwV G) nb r → K' ≤ K0 + 5000 → J' ≤ J0 + 100000 → xx_J G l mL_law 2048 84000 600086 7301442 lawP 40 [(4, .int (nI (t + 1))), (3, .ref h), (2, .ref tx), (1, .ref b), (0, .ref 160)] [] A' n' K' J')
  (hC : cI G b F nb r A) (hS : sI G b h S A) (hT : tiS S F (nwV G) nb r) (hga : (gaP (ruG G) (nwV G) u F nb).1 = GA) (hop : bx_sum (opn (F.2 6)) nb = 0) (hin : bx_sum (fun w => F.2 2 (8 * 12 + w)) (nwV G) = inn) (hK : K0 ≤ 500000) (hJ : J0 ≤ 5500000) (ht : t < 9) : xx_J G l mL_law 2048 84000 600086 7301442 lawP 572 [(15, .int (GA.2 2 (1 * 12 + lead))), (14, .int (nI lead)), (13, .int (nI u)), (12, .int inn), (4, .int (nI t)), (3, .ref h), (2, .ref tx), (1, .ref b), (0, .ref 160)] [] A n K0 J0 := by
  have hnw := nwV_lt (G := G)
  have h12 : nwV G ≤ 12 := by omega
  have hbd := hT.bd
  have enw : (nI (nwV G)).toInt = nwV G := i_n (by omega)
  have fin : ∀ S F nb r A1 n1 K1 J1, cI G b F nb r A1 → sI G b h S A1 → tiS S F (nwV G) nb r → F = GA → K1 ≤ K0 + 4900 → J1 ≤ J0 + 99000 → xx_J G l mL_law 2048 84000 600086 7301442 lawP 633 [(15, .int (GA.2 2 (1 * 12 + lead))), (14, .int (nI lead)), (13, .int (nI u)), (12, .int inn), (4, .int (nI t)), (3, .ref h), (2, .ref tx), (1, .ref b), (0, .ref 160)] [] A1 n1 K1 J1 := by
    intro S F nb r A1 n1 K1 J1 hC hS hT hF hK1 hJ1
    have hlw : lead < nwV G := by rw [hlead]; exact ls_at (by omega)
    refine J_aload_n dL_law_633 rfl rfl ?_
    refine J_iconst (v := 0) dL_law_634 (by decide) ?_
    refine J_callVz (As := [_]) dL_law_635 ml_L_221 cal_X6_wrestlerAt im_X6_wrestlerAt se_X6_wrestlerAt (hC.1.at 0 rfl) rfl rfl rfl (Nat.le_of_ble_eq_true rfl) ⟨by decide, by decide⟩ ⟨by omega, by omega⟩ (c_X6_wrestlerAt hst hC.1 hC.2.1 _) (lw_q hC (an_at hT (w := 0) (by omega))) (fun A101 hQ101 => ?_)
    have hC101 := hQ101.1
    have hS101 := hS.cl hQ101.2
    refine J_iload dL_law_638 rfl ?_
    refine J_icmp_ne (tgt := 654) dL_law_640 rfl (fun h640 => ?_) (fun h640 => ?_)
    · exact absurd (by rw [hlead, hF]) h640
    · refine J_aload_n dL_law_643 rfl rfl ?_
      refine J_iload dL_law_644 rfl ?_
      refine J_callVz (As := [_]) dL_law_646 ml_L_200 cal_X6_pointsOf im_X6_pointsOf se_X6_pointsOf (hC101.1.at 0 rfl) rfl rfl rfl (Nat.le_of_ble_eq_true rfl) ⟨by decide, by decide⟩ ⟨by omega, by omega⟩ (c_X6_pointsOf hst hC101.1 hC101.2.1 _) (lw_q hC101 (an_of hT hlw)) (fun A102 hQ102 => ?_)
      have hC102 := hQ102.1
      have hS102 := hS101.cl hQ102.2
      refine J_iload dL_law_649 rfl ?_
      refine J_icmp_eq (tgt := 656) dL_law_651 rfl (fun h651 => ?_) (fun h651 => ?_)
      · refine J_iinc (v := _ + 1) (L' := [(4, _), (15, _), (14, _), (13, _), (12, _), (3, _), (2, _), (1, _), (0, _)]) dL_law_656 rfl rfl (by decide) rfl ?_
        refine J_goto (tgt := 40) dL_law_659 rfl ?_
        refine xx_J.pick [0, 5, 6, 7, 8] rfl ?_
        rw [nI_1]
        exact next _ _ _ _ _ _ _ _ hC102 hS102 hT (by omega) (by omega)
      · exact absurd (by rw [hF]) h651
  have loop : ∀ k, k ≤ u → ∀ (S : sS) (F : xS) (nb r : Nat) (A1 : xx_H) (n1 K1 J1 : Nat), cI G b F nb r A1 → sI G b h S A1 → tiS S F (nwV G) nb r → (gaP (ruG G) (nwV G) (u - k) F nb).1 = GA → bx_sum (opn (F.2 6)) nb = 0 → bx_sum (fun w => F.2 2 (8 * 12 + w)) (nwV G) = inn → K1 + 1500 * (u - k) ≤ K0 + 4600 → J1 + 30000 * (u - k) ≤ J0 + 95000 → xx_J G l mL_law 2048 84000 600086 7301442 lawP 578 [(17, .int (nI k)), (16, .int 1), (15, .int (GA.2 2 (1 * 12 + lead))), (14, .int (nI lead)), (13, .int (nI u)), (12, .int inn), (4, .int (nI t)), (3, .ref h), (2, .ref tx), (1, .ref b), (0, .ref 160)] [] A1 n1 K1 J1 := by
    refine xx_dn ?_ ?_
    · intro S F nb r A1 n1 K1 J1 hC hS hT hga hop hin hK1 hJ1
      have eu : (nI u).toInt = u := i_n (by omega)
      refine J_iload dL_law_578 rfl ?_
      refine J_iload dL_law_580 rfl ?_
      refine J_icmp_ge (tgt := 633) dL_law_582 rfl (fun h582 => ?_) (fun h582 => ?_)
      · refine xx_J.pick [2, 3, 4, 5, 6, 7, 8, 9, 10] rfl ?_
        exact fin _ _ _ _ _ _ _ _ hC hS hT (by rw [Nat.sub_self] at hga; exact hga) (by omega) (by omega)
      · exfalso; rw [i_le, eu] at h582; omega
    · intro k hk ih S F nb r A1 n1 K1 J1 hC hS hT hga hop hin hK1 hJ1
      have eu : (nI u).toInt = u := i_n (by omega)
      have ek : (nI k).toInt = k := i_n (by omega)
      have hbd1 := hT.bd
      have er : (nI r).toInt = r := i_n (by omega)
      refine J_iload dL_law_578 rfl ?_
      refine J_iload dL_law_580 rfl ?_
      refine J_icmp_ge (tgt := 633) dL_law_582 rfl (fun h582 => ?_) (fun h582 => ?_)
      · exfalso; rw [i_le, eu, ek] at h582; omega
      · refine J_iload dL_law_585 rfl ?_
        refine J_if_eq (tgt := 633) dL_law_587 rfl (fun h587 => ?_) (fun h587 => ?_)
        · first | exact absurd h587 (by decide) | exact absurd (by decide) h587
        · refine J_iload dL_law_590 rfl ?_
          refine J_iconst (v := 1) dL_law_592 (by decide) ?_
          refine J_icmp_le (tgt := 609) dL_law_593 rfl (fun h593 => ?_) (fun h593 => ?_)
          · refine J_iconst (v := 0) dL_law_609 (by decide) ?_
            have hnc : ¬ canB F (nwV G) nb = true := fun z => by
              have z2 := (canB_i.mp z).2.2
              rw [hin, i_lt, i_2] at z2
              rw [i_le, i_1] at h593
              omega
            have hFG : F = GA := by
              rw [gaP_s hk, if_neg hnc] at hga
              exact hga
            refine J_istore (L' := [(16, _), (17, _), (15, _), (14, _), (13, _), (12, _), (4, _), (3, _), (2, _), (1, _), (0, _)]) dL_law_610 (by decide) rfl ?_
            refine J_iload dL_law_612 rfl ?_
            refine J_if_eq (tgt := 627) dL_law_614 rfl (fun h614 => ?_) (fun h614 => ?_)
            · refine J_iinc (v := _ + 1) (L' := [(17, _), (16, _), (15, _), (14, _), (13, _), (12, _), (4, _), (3, _), (2, _), (1, _), (0, _)]) dL_law_627 rfl rfl (by decide) rfl ?_
              refine J_goto (tgt := 578) dL_law_630 rfl ?_
              refine J_iload dL_law_578 rfl ?_
              refine J_iload dL_law_580 rfl ?_
              refine J_icmp_ge (tgt := 633) dL_law_582 rfl (fun h582 => ?_) (fun h582 => ?_)
              · refine xx_J.pick [2, 3, 4, 5, 6, 7, 8, 9, 10] rfl ?_
                exact fin _ _ _ _ _ _ _ _ hC hS hT hFG (by omega) (by omega)
              · refine J_iload dL_law_585 rfl ?_
                refine J_if_eq (tgt := 633) dL_law_587 rfl (fun h587 => ?_) (fun h587 => ?_)
                · refine xx_J.pick [2, 3, 4, 5, 6, 7, 8, 9, 10] rfl ?_
                  exact fin _ _ _ _ _ _ _ _ hC hS hT hFG (by omega) (by omega)
                · first | exact absurd h587 (by decide) | exact absurd (by decide) h587
            · first | exact absurd h614 (by decide) | exact absurd (by decide) h614
          · refine J_aload_n dL_law_596 rfl rfl ?_
            refine J_callVr (As := []) dL_law_597 ml_L_209 cal_X6_rounds im_X6_rounds se_X6_rounds (hC.1.at 0 rfl) rfl rfl rfl (Nat.le_of_ble_eq_true rfl) ⟨by decide, by decide⟩ ⟨by omega, by omega⟩ (k_rounds hst hC) ?_
            refine J_bipush (v := 20) dL_law_600 (by decide) ?_
            refine J_icmp_ge (tgt := 609) dL_law_602 rfl (fun h602 => ?_) (fun h602 => ?_)
            · refine J_iconst (v := 0) dL_law_609 (by decide) ?_
              have hnc : ¬ canB F (nwV G) nb = true := fun z => by
                have z2 := (canB_i.mp z).2.1
                rw [hT.2.1.2.2.1.1, i_lt, er, i_20] at z2
                rw [i_le, er, i_20] at h602
                omega
              have hFG : F = GA := by
                rw [gaP_s hk, if_neg hnc] at hga
                exact hga
              refine J_istore (L' := [(16, _), (17, _), (15, _), (14, _), (13, _), (12, _), (4, _), (3, _), (2, _), (1, _), (0, _)]) dL_law_610 (by decide) rfl ?_
              refine J_iload dL_law_612 rfl ?_
              refine J_if_eq (tgt := 627) dL_law_614 rfl (fun h614 => ?_) (fun h614 => ?_)
              · refine J_iinc (v := _ + 1) (L' := [(17, _), (16, _), (15, _), (14, _), (13, _), (12, _), (4, _), (3, _), (2, _), (1, _), (0, _)]) dL_law_627 rfl rfl (by decide) rfl ?_
                refine J_goto (tgt := 578) dL_law_630 rfl ?_
                refine J_iload dL_law_578 rfl ?_
                refine J_iload dL_law_580 rfl ?_
                refine J_icmp_ge (tgt := 633) dL_law_582 rfl (fun h582 => ?_) (fun h582 => ?_)
                · refine xx_J.pick [2, 3, 4, 5, 6, 7, 8, 9, 10] rfl ?_
                  exact fin _ _ _ _ _ _ _ _ hC hS hT hFG (by omega) (by omega)
                · refine J_iload dL_law_585 rfl ?_
                  refine J_if_eq (tgt := 633) dL_law_587 rfl (fun h587 => ?_) (fun h587 => ?_)
                  · refine xx_J.pick [2, 3, 4, 5, 6, 7, 8, 9, 10] rfl ?_
                    exact fin _ _ _ _ _ _ _ _ hC hS hT hFG (by omega) (by omega)
                  · first | exact absurd h587 (by decide) | exact absurd (by decide) h587
              · first | exact absurd h614 (by decide) | exact absurd (by decide) h614
            · refine J_iconst (v := 1) dL_law_605 (by decide) ?_
              refine J_goto (tgt := 610) dL_law_606 rfl ?_
              have hcan : canB F (nwV G) nb = true := canB_i.mpr ⟨hop, by rw [hT.2.1.2.2.1.1, i_lt, er, i_20]; rw [i_le, er, i_20] at h602; omega, fun z => by rw [hin, i_lt, i_2] at z; rw [i_le, i_1] at h593; omega⟩
              refine J_istore (L' := [(16, _), (17, _), (15, _), (14, _), (13, _), (12, _), (4, _), (3, _), (2, _), (1, _), (0, _)]) dL_law_610 (by decide) rfl ?_
              refine J_iload dL_law_612 rfl ?_
              refine J_if_eq (tgt := 627) dL_law_614 rfl (fun h614 => ?_) (fun h614 => ?_)
              · first | exact absurd h614 (by decide) | exact absurd (by decide) h614
              · refine J_aload_n dL_law_617 rfl rfl ?_
                refine J_aload_n dL_law_618 rfl rfl ?_
                refine J_callSX (As := [_, _]) dL_law_619 ml_L_246 cal_L_pairs rfl sm_L_pairs rfl (Nat.le_of_ble_eq_true rfl) ⟨by decide, by decide⟩ ⟨by omega, by omega⟩ (c_L_pairs hst hC hS hT hcan) (fun v2 A2 n2 _ hQ2 => ?_) (fun E A n _ hq => absurd hq.1 (fun z => nomatch z))
                obtain ⟨ev2, S2, hC2, hS2, hT2⟩ := hQ2
                cases ev2
                obtain ⟨rk1, rk2, rk3, rk4⟩ := hT.2.1.rnd hcan
                refine J_if_ne (tgt := 627) dL_law_622 rfl (fun h622 => ?_) (fun h622 => ?_)
                · refine J_iinc (v := _ + 1) (L' := [(17, _), (16, _), (15, _), (14, _), (13, _), (12, _), (4, _), (3, _), (2, _), (1, _), (0, _)]) dL_law_627 rfl rfl (by decide) rfl ?_
                  refine J_goto (tgt := 578) dL_law_630 rfl ?_
                  refine xx_J.pick [0, 1, 2, 3, 4, 5, 6, 7, 8, 9, 10] rfl ?_
                  rw [nI_1]
                  exact ih _ _ _ _ _ _ _ _ hC2 hS2 hT2 (by rw [gaP_s hk, if_pos hcan] at hga; exact hga) (by rw [opN_sum, (okF.tla ruG_v rk4).2]; rfl) (by
                    rw [← hin]
                    refine bx_c (nwV G) (fun w hw => ?_)
                    rw [tlP_8 h12 rk4.2.2.2.2.2.2.1 _ 0 _ _ (by omega) rfl rfl (fun _ _ => rfl) w hw]
                    obtain ⟨ra9, raw_, rq⟩ := rnd_at (F := F) h12
                    obtain ⟨hpd, -⟩ := prD_F (F := F) h12
                    obtain ⟨sl1, sl2, -⟩ := srL_cnt (F := sr_0 F (pX (npF F (nwV G)) (rsF F (nwV G)))) h12 hpd (npF F (nwV G)) (Nat.le_refl _)
                    rw [(raw_ w (by omega)).2.2 8 (by omega) (by omega), (sl2 w (by omega)).2.2 8 (by omega) (by omega) (by omega)]) (by omega) (by omega)
                · first | exact absurd h622 (by decide) | exact absurd (by decide) h622
  refine J_iconst (v := 1) dL_law_572 (by decide) ?_
  refine J_istore (L' := [(16, _), (15, _), (14, _), (13, _), (12, _), (4, _), (3, _), (2, _), (1, _), (0, _)]) dL_law_573 (by decide) rfl ?_
  refine J_iconst (v := 0) dL_law_575 (by decide) ?_
  refine J_istore (L' := [(17, _), (16, _), (15, _), (14, _), (13, _), (12, _), (4, _), (3, _), (2, _), (1, _), (0, _)]) dL_law_576 (by decide) rfl ?_
  refine xx_J.pick [0, 1, 2, 3, 4, 5, 6, 7, 8, 9, 10] rfl ?_
  exact loop 0 (Nat.zero_le _) _ _ _ _ _ _ _ _ hC hS hT hga hop hin (by omega) (by omega)
set_option maxRecDepth 100000 in
set_option maxHeartbeats 8000000 in
theorem law_D (hst : l.stackTraces = false) {GA : xS} {lead u K0 J0 : Nat} {inn : Int32} (hlead : lead = (lsF GA (nwV G)).getD 0 0) (hu : 1 ≤ u ∧ u ≤ 3) (next : ∀ S F nb r A' n' K' J', cI G b F nb r A' → sI G b h S A' → tiS S F (nwV G) nb r → K' ≤ K0 + 5100 → J' ≤ J0 + 101000 → xx_J G l mL_law 2048 84000 600086 7301442 lawP 40 [(4, .int (nI (t + 1))), (3, .ref h), (2, .ref tx), (1, .ref b), (0, .ref 160)] [] A' n' K' J')
  (hC : cI G b F nb r A) (hS : sI G b h S A) (hT : tiS S F (nwV G) nb r) (hga : gaF (ruG G) (nwV G) nb u F = GA) (hin : bx_sum (fun w => F.2 2 (8 * 12 + w)) (nwV G) = inn) (hK : K0 ≤ 400000) (hJ : J0 ≤ 5000000) (ht : t < 9) : xx_J G l mL_law 2048 84000 600086 7301442 lawP 496 [(15, .int (GA.2 2 (1 * 12 + lead))), (14, .int (nI lead)), (13, .int (nI u)), (12, .int inn), (4, .int (nI t)), (3, .ref h), (2, .ref tx), (1, .ref b), (0, .ref 160)] [] A n K0 J0 := by
  have hnw := nwV_lt (G := G)
  have h12 : nwV G ≤ 12 := by omega
  have hbd := hT.bd
  have enw : (nI (nwV G)).toInt = nwV G := i_n (by omega)
  have hle9 := opN_le (F := F) nb
  have en9 : (nI (opN F nb)).toInt = opN F nb := i_n (by omega)
  have enb : (nI nb).toInt = nb := i_n (by omega)
  have nxt : ∀ A1 n1 K1 J1 S1, cI G b (tlP (ruG G) nb 0 F 0).1 nb r A1 → sI G b h S1 A1 → tiS S1 (tlP (ruG G) nb 0 F 0).1 (nwV G) nb r → K1 ≤ K0 + 80 → J1 ≤ J0 + 900 → xx_J G l mL_law 2048 84000 600086 7301442 lawP 572 [(15, .int (GA.2 2 (1 * 12 + lead))), (14, .int (nI lead)), (13, .int (nI u)), (12, .int inn), (4, .int (nI t)), (3, .ref h), (2, .ref tx), (1, .ref b), (0, .ref 160)] [] A1 n1 K1 J1 := by
    intro A1 n1 K1 J1 S1 hC1 hS1 hT1 hK1 hJ1
    refine law_E hst hlead hu (fun S F nb r A' n' K' J' a1 a2 a3 a4 a5 => next S F nb r A' n' K' J' a1 a2 a3 (by omega) (by omega)) hC1 hS1 hT1 hga ?_ ?_ (by omega) (by omega) ht
    · rw [opN_sum, (okF.tla ruG_v hT.2.1).2]; rfl
    · rw [← hin]
      exact bx_c (nwV G) (fun w hw => (red_eq (G := G) hT h12).2 w hw)
  refine J_aload_n dL_law_496 rfl rfl ?_
  refine J_callVr (As := []) dL_law_497 ml_L_233 cal_X6_openBouts im_X6_openBouts se_X6_openBouts (hC.1.at 0 rfl) rfl rfl rfl (Nat.le_of_ble_eq_true rfl) ⟨by decide, by decide⟩ ⟨by omega, by omega⟩ (k_open hst hC) ?_
  rw [opN_sum]
  refine J_if_le (tgt := 572) dL_law_500 rfl (fun h500 => ?_) (fun h500 => ?_)
  · have ho0 : opN F nb = 0 := by rw [i_le, en9, i_0] at h500; omega
    have et0 := tlP_0 (ru := ruG G) (F := F) nb 0 0 (fun q _ hq => opN_0 nb ho0 q (by omega))
    refine xx_J.pick [0, 1, 2, 3, 4, 5, 6, 7, 8] rfl ?_
    exact nxt _ _ _ _ S (by rw [et0]; exact hC) hS (by rw [et0]; exact hT) (by omega) (by omega)
  · refine J_iconst (v := 0) dL_law_503 (by decide) ?_
    refine J_istore (L' := [(16, _), (15, _), (14, _), (13, _), (12, _), (4, _), (3, _), (2, _), (1, _), (0, _)]) dL_law_504 (by decide) rfl ?_
    refine J_iconst (v := 0) dL_law_506 (by decide) ?_
    refine J_istore (L' := [(17, _), (16, _), (15, _), (14, _), (13, _), (12, _), (4, _), (3, _), (2, _), (1, _), (0, _)]) dL_law_507 (by decide) rfl ?_
    have loop : ∀ q, q ≤ nb → ∀ (n2 : Nat) (A1 : xx_H) (K J : Nat), K + 4 * (nb - q) ≤ (K0 + 60) → J + 24 * (nb - q) ≤ (J0 + 600) → (n ≤ n2) → (cI G b F nb r A1) → (sI G b h S A1) → xx_J G l mL_law 2048 84000 600086 7301442 (lawP) 509 [(17, .int (nI q)), (16, .int (bx_sum (redT G F) q)), (15, .int (GA.2 2 (1 * 12 + lead))), (14, .int (nI lead)), (13, .int (nI u)), (12, .int inn), (4, .int (nI t)), (3, .ref h), (2, .ref tx), (1, .ref b), (0, .ref 160)] [] A1 n2 K J := by
      refine xx_dn ?_ ?_
      · intro n2  A1 K J hK hJ hn2 hC3 hS3
        have eq9 : (nI nb).toInt = nb := enb
        refine J_iload dL_law_509 rfl ?_
        refine J_aload_n dL_law_511 rfl rfl ?_
        refine J_callVr (As := []) dL_law_512 ml_L_236 cal_X6_bouts im_X6_bouts se_X6_bouts (hC3.1.at 0 rfl) rfl rfl rfl (Nat.le_of_ble_eq_true rfl) ⟨by decide, by decide⟩ ⟨by omega, by omega⟩ (k_bouts hst hC3) ?_
        refine J_icmp_ge (tgt := 552) dL_law_515 rfl (fun h515 => ?_) (fun h515 => ?_)
        · refine J_aload_n dL_law_552 rfl rfl ?_
          have hne : ¬ bx_sum (opn (F.2 6)) nb = 0 := by rw [opN_sum, i_eq, en9, i_0]; rw [i_le, en9, i_0] at h500; omega
          have eb1 : aTBR (ruG G) nb F = (0, (tlP (ruG G) nb 0 F 0).2) := if_neg hne
          have eb2 : sTBR (ruG G) nb F = (tlP (ruG G) nb 0 F 0).1 := if_neg hne
          refine J_callVz (As := []) dL_law_553 ml_L_160 cal_X6_tellByRules im_X6_tellByRules se_X6_tellByRules (hC3.1.at 0 rfl) rfl rfl rfl (Nat.le_of_ble_eq_true rfl) ⟨by decide, by decide⟩ ⟨by omega, by omega⟩ (c_X6_tellByRules hst hC3.1 hC3.2.1 ruG_v ruG_c) (lw_q2 hC3 eb1) (fun A651 hQ651 => ?_)
          rw [eb2] at hQ651
          have hC651 := hQ651.1
          have hS651 := hS3.cl hQ651.2
          refine J_iload dL_law_556 rfl ?_
          refine J_icmp_ne (tgt := 570) dL_law_558 rfl (fun h558 => ?_) (fun h558 => ?_)
          · exact absurd (red_eq (G := G) hT h12).1 h558
          · refine J_aload_n dL_law_561 rfl rfl ?_
            refine J_callVz (As := []) dL_law_562 ml_L_157 cal_X7_tellAll im_X7_tellAll se_X7_tellAll (hS651.W.1) rfl rfl rfl (Nat.le_of_ble_eq_true rfl) ⟨by decide, by decide⟩ ⟨by omega, by omega⟩ (c_X7_tellAll hst hS651.W hT.n1 hT.n3 hS651.R hS651.2.2.1 hT.b12) (fun _ _ _ hq => hq) (fun A2 hQ2 => ?_)
            obtain ⟨hS2, u2⟩ := hS651.tl hQ2.1 hQ2.2
            have hC2 := hC651.up u2
            obtain ⟨hT2, ev2⟩ := hT.tellAll hS651.2.2.2
            rw [ev2]
            refine J_iload dL_law_565 rfl ?_
            refine J_icmp_eq (tgt := 572) dL_law_567 rfl (fun h567 => ?_) (fun h567 => ?_)
            · refine xx_J.pick [2, 3, 4, 5, 6, 7, 8, 9, 10] rfl ?_
              exact nxt _ _ _ _ _ hC2 hS2 hT2 (by omega) (by omega)
            · exact absurd (red_eq (G := G) hT h12).1 h567
        · first | (exfalso; simp only [i_lt, i_le, i_eq, i_0, i_1, i_2, i_3, i_4, i_5, i_6, i_8, i_9, i_10, i_12, i_16, i_20, i_m1] at h515; omega) | (exfalso; simp only [s_up, a_up, va_up, i_lt, i_le, i_eq, i_0, i_1, i_2, i_3, i_4, i_5, i_6, i_8, i_9, i_10, i_12, i_16, i_20, i_m1, ↓reduceIte, Nat.reduceEqDiff] at h515; omega)
      · intro q hiq ih n2  A1 K J hK hJ hn2 hC3 hS3
        have eq9 : (nI q).toInt = q := i_n (by omega)
        refine J_iload dL_law_509 rfl ?_
        refine J_aload_n dL_law_511 rfl rfl ?_
        refine J_callVr (As := []) dL_law_512 ml_L_236 cal_X6_bouts im_X6_bouts se_X6_bouts (hC3.1.at 0 rfl) rfl rfl rfl (Nat.le_of_ble_eq_true rfl) ⟨by decide, by decide⟩ ⟨by omega, by omega⟩ (k_bouts hst hC3) ?_
        refine J_icmp_ge (tgt := 552) dL_law_515 rfl (fun h515 => ?_) (fun h515 => ?_)
        · first | (exfalso; simp only [i_lt, i_le, i_eq, i_0, i_1, i_2, i_3, i_4, i_5, i_6, i_8, i_9, i_10, i_12, i_16, i_20, i_m1] at h515; omega) | (exfalso; simp only [s_up, a_up, va_up, i_lt, i_le, i_eq, i_0, i_1, i_2, i_3, i_4, i_5, i_6, i_8, i_9, i_10, i_12, i_16, i_20, i_m1, ↓reduceIte, Nat.reduceEqDiff] at h515; omega)
        · refine J_iload dL_law_518 rfl ?_
          refine J_aload_n dL_law_520 rfl rfl ?_
          refine J_iload dL_law_521 rfl ?_
          obtain ⟨hokq, ewq⟩ := okB_n hT hiq
          refine J_callSX (As := [_, _]) dL_law_523 ml_L_239 cal_L_isOpen rfl sm_L_isOpen rfl (Nat.le_of_ble_eq_true rfl) ⟨by decide, by decide⟩ ⟨by omega, by omega⟩ (c_L_isOpen hst hC3.1 hC3.2.1 _ hokq) (fun v4 A4 n4 _ hQ4 => ?_) (fun E A n _ hq => absurd hq.1 (fun z => nomatch z))
          obtain ⟨ev4, hn4, hG4, hs4⟩ := hQ4
          cases ev4
          have hC4 := hC3.cl hG4 hs4
          have hS4 := hS3.cl hs4
          rw [ewq]
          obtain ⟨a, c, ga, ha, gc, hc, hac⟩ := hT.bt2 hiq
          have ca : (F.2 4 q).toNatClampNeg = a := by rw [ga]; exact nI_clamp (by omega)
          have cc : (F.2 5 q).toNatClampNeg = c := by rw [gc]; exact nI_clamp (by omega)
          have eT : redT G F q = if F.2 6 q = -1 ∧ ruG G F a c = 0 then 1 else 0 := by unfold redT; rw [ca, cc]
          change xx_J _ _ _ _ _ _ _ _ _ _ (.int (xx_b (F.2 6 q = -1 ∨ F.2 6 q < 0)) :: .int (bx_sum (redT G F) q) :: []) _ _ _ _
          refine J_if_eq (tgt := 542) dL_law_526 rfl (fun h526 => ?_) (fun h526 => ?_)
          · refine J_iconst (v := 0) dL_law_542 (by decide) ?_
            have eq5 : bx_sum (redT G F) q + 0 = bx_sum (redT G F) (q + 1) := by rw [bx_s, eT, if_neg (fun z => by rw [xx_bt (Or.inl z.1)] at h526; exact absurd h526 (by decide))]
            refine J_iadd dL_law_543 ?_
            rw [eq5]
            refine J_istore (L' := [(16, _), (17, _), (15, _), (14, _), (13, _), (12, _), (4, _), (3, _), (2, _), (1, _), (0, _)]) dL_law_544 (by decide) rfl ?_
            refine J_iinc (v := _ + 1) (L' := [(17, _), (16, _), (15, _), (14, _), (13, _), (12, _), (4, _), (3, _), (2, _), (1, _), (0, _)]) dL_law_546 rfl rfl (by decide) rfl ?_
            refine J_goto (tgt := 509) dL_law_549 rfl ?_
            rw [nI_1]
            refine xx_J.pick [0, 1, 2, 3, 4, 5, 6, 7, 8, 9, 10] rfl ?_
            exact ih _ _ _ _ (by omega) (by omega) (by omega) hC4 hS4
          · refine J_aload_n dL_law_529 rfl rfl ?_
            refine J_iload dL_law_530 rfl ?_
            refine J_callVz (As := [_]) dL_law_532 ml_L_243 cal_X6_ruledOutcome im_X6_ruledOutcome se_X6_ruledOutcome (hC4.1.at 0 rfl) rfl rfl rfl (Nat.le_of_ble_eq_true rfl) ⟨by decide, by decide⟩ ⟨by omega, by omega⟩ (c_X6_ruledOutcome hst hC4.1 hC4.2.1 _ ruG_c) (lw_q hC4 (an_rul hT hiq ga gc ha hc)) (fun A701 hQ701 => ?_)
            have hC701 := hQ701.1
            have hS701 := hS4.cl hQ701.2
            refine J_if_ne (tgt := 542) dL_law_535 rfl (fun h535 => ?_) (fun h535 => ?_)
            · refine J_iconst (v := 0) dL_law_542 (by decide) ?_
              have eq5 : bx_sum (redT G F) q + 0 = bx_sum (redT G F) (q + 1) := by rw [bx_s, eT, if_neg (fun z => h535 z.2)]
              refine J_iadd dL_law_543 ?_
              rw [eq5]
              refine J_istore (L' := [(16, _), (17, _), (15, _), (14, _), (13, _), (12, _), (4, _), (3, _), (2, _), (1, _), (0, _)]) dL_law_544 (by decide) rfl ?_
              refine J_iinc (v := _ + 1) (L' := [(17, _), (16, _), (15, _), (14, _), (13, _), (12, _), (4, _), (3, _), (2, _), (1, _), (0, _)]) dL_law_546 rfl rfl (by decide) rfl ?_
              refine J_goto (tgt := 509) dL_law_549 rfl ?_
              rw [nI_1]
              refine xx_J.pick [0, 1, 2, 3, 4, 5, 6, 7, 8, 9, 10] rfl ?_
              exact ih _ _ _ _ (by omega) (by omega) (by omega) hC701 hS701
            · refine J_iconst (v := 1) dL_law_538 (by decide) ?_
              refine J_goto (tgt := 543) dL_law_539 rfl ?_
              have ho6 : F.2 6 q = -1 := by
                rcases hT.2.1.2.2.2.2.2.2.2.2 q hiq with z | z | z | z
                · exact z
                · exact absurd (by rw [z]; decide) h526
                · exact absurd (by rw [z]; decide) h526
                · exact absurd (by rw [z]; decide) h526
              have eq5 : bx_sum (redT G F) q + 1 = bx_sum (redT G F) (q + 1) := by rw [bx_s, eT, if_pos ⟨ho6, h535⟩]
              refine J_iadd dL_law_543 ?_
              rw [eq5]
              refine J_istore (L' := [(16, _), (17, _), (15, _), (14, _), (13, _), (12, _), (4, _), (3, _), (2, _), (1, _), (0, _)]) dL_law_544 (by decide) rfl ?_
              refine J_iinc (v := _ + 1) (L' := [(17, _), (16, _), (15, _), (14, _), (13, _), (12, _), (4, _), (3, _), (2, _), (1, _), (0, _)]) dL_law_546 rfl rfl (by decide) rfl ?_
              refine J_goto (tgt := 509) dL_law_549 rfl ?_
              rw [nI_1]
              refine xx_J.pick [0, 1, 2, 3, 4, 5, 6, 7, 8, 9, 10] rfl ?_
              exact ih _ _ _ _ (by omega) (by omega) (by omega) hC701 hS701
    refine xx_J.pick [0, 1, 2, 3, 4, 5, 6, 7, 8, 9, 10] rfl ?_
    exact loop 0 (Nat.zero_le _) _ _ _ _ (by omega) (by omega) (Nat.le_refl _) hC hS
set_option maxRecDepth 100000 in
set_option maxHeartbeats 8000000 in
theorem law_C (hst : l.stackTraces = false) {K0 J0 : Nat} {inn x : Int32} (next : ∀ S F nb r A' n' K' J', cI G b F nb r A' → sI G b h S A' → tiS S F (nwV G) nb r → K' ≤ K0 + 5200 → J' ≤ J0 + 102000 → xx_J G l mL_law 2048 84000 600086 7301442 lawP 40 [(4, .int (nI (t + 1))), (3, .ref h), (2, .ref tx), (1, .ref b), (0, .ref 160)] [] A' n' K' J')
  (hC : cI G b F nb r A) (hS : sI G b h S A) (hT : tiS S F (nwV G) nb r) (hin : bx_sum (fun w => F.2 2 (8 * 12 + w)) (nwV G) = inn) (hK : K0 ≤ 300000) (hJ : J0 ≤ 4000000) (ht : t < 9) : xx_J G l mL_law 2048 84000 600086 7301442 lawP 423 [(12, .int inn), (8, .int (nI (nwV G))), (6, .long (dgA F (nwV G) nb (nrV G) 0)), (5, .int x), (4, .int (nI t)), (3, .ref h), (2, .ref tx), (1, .ref b), (0, .ref 160)] [] A n K0 J0 := by
  have hnw := nwV_lt (G := G)
  have h12 : nwV G ≤ 12 := by omega
  have hbd := hT.bd
  have enw : (nI (nwV G)).toInt = nwV G := i_n (by omega)
  refine J_iconst (v := 1) dL_law_423 (by decide) ?_
  refine J_iload dL_law_424 rfl ?_
  refine J_iconst (v := 4) dL_law_426 (by decide) ?_
  refine J_ishr dL_law_427 ?_
  refine J_iconst (v := 3) dL_law_428 (by decide) ?_
  refine J_callSr (As := [_, _]) dL_law_429 ml_L_35 cal_L_below sm_L_below rfl rfl (Nat.le_of_ble_eq_true rfl) ⟨by decide, by decide⟩ ⟨by omega, by omega⟩ (c_L_below hst _ (m := 3) (by omega) (by omega)) ?_
  obtain ⟨c9, hc9, ec9⟩ : ∃ c9, c9 < 3 ∧ blw (x >>> ((4 : Int32) &&& 31)) 3 = c9 := ⟨_, blw_lt (by omega), rfl⟩
  rw [ec9]
  refine J_iadd dL_law_432 ?_
  obtain ⟨u, hu⟩ : ∃ u, u = 1 + c9 := ⟨_, rfl⟩
  rw [show (1 : Int32) + nI c9 = nI u by rw [hu]; exact nI_add 1 c9]
  obtain ⟨GA, hGA⟩ : ∃ GA, GA = gaF (ruG G) (nwV G) nb u F := ⟨_, rfl⟩
  obtain ⟨lead, hlead⟩ : ∃ lead, lead = (lsF GA (nwV G)).getD 0 0 := ⟨_, rfl⟩
  have hlw : lead < nwV G := by rw [hlead]; exact ls_at (by omega)
  have al := an_lead hT (x := u) (by omega) (by omega)
  rw [← hGA, ← hlead] at al
  have ap := fun (w : Nat) (hw : w < nwV G) => an_pta hT (x := u) hw (by omega) (by omega)
  rw [← hGA] at ap
  refine J_istore (L' := [(13, _), (12, _), (8, _), (6, _), (5, _), (4, _), (3, _), (2, _), (1, _), (0, _)]) dL_law_433 (by decide) rfl ?_
  refine J_aload_n dL_law_435 rfl rfl ?_
  refine J_iload dL_law_436 rfl ?_
  refine J_callVz (As := [_]) dL_law_438 ml_L_227 cal_X6_leaderAfter im_X6_leaderAfter se_X6_leaderAfter (hC.1.at 0 rfl) rfl rfl rfl (Nat.le_of_ble_eq_true rfl) ⟨by decide, by decide⟩ ⟨by omega, by omega⟩ (c_X6_leaderAfter hst hC.1 hC.2.1 _ ruG_v ruG_c) (lw_q hC (al)) (fun A601 hQ601 => ?_)
  have hC601 := hQ601.1
  have hS601 := hS.cl hQ601.2
  refine J_istore (L' := [(14, _), (13, _), (12, _), (8, _), (6, _), (5, _), (4, _), (3, _), (2, _), (1, _), (0, _)]) dL_law_441 (by decide) rfl ?_
  refine J_aload_n dL_law_443 rfl rfl ?_
  refine J_iload dL_law_444 rfl ?_
  refine J_iload dL_law_446 rfl ?_
  refine J_callVz (As := [_, _]) dL_law_448 ml_L_230 cal_X6_pointsAfter im_X6_pointsAfter se_X6_pointsAfter (hC601.1.at 0 rfl) rfl rfl rfl (Nat.le_of_ble_eq_true rfl) ⟨by decide, by decide⟩ ⟨by omega, by omega⟩ (c_X6_pointsAfter hst hC601.1 hC601.2.1 _ _ ruG_v ruG_c) (lw_q hC601 (ap lead hlw)) (fun A602 hQ602 => ?_)
  have hC602 := hQ602.1
  have hS602 := hS601.cl hQ602.2
  refine J_istore (L' := [(15, _), (14, _), (13, _), (12, _), (8, _), (6, _), (5, _), (4, _), (3, _), (2, _), (1, _), (0, _)]) dL_law_451 (by decide) rfl ?_
  refine J_iconst (v := 0) dL_law_453 (by decide) ?_
  refine J_istore (L' := [(16, _), (15, _), (14, _), (13, _), (12, _), (8, _), (6, _), (5, _), (4, _), (3, _), (2, _), (1, _), (0, _)]) dL_law_454 (by decide) rfl ?_
  have loop : ∀ w, w ≤ nwV G → ∀  (A1 : xx_H) (K J : Nat), K + 2 * (nwV G - w) ≤ (K0 + 30) → J + 12 * (nwV G - w) ≤ (J0 + 200) → (cI G b F nb r A1) → (sI G b h S A1) → xx_J G l mL_law 2048 84000 600086 7301442 (lawP) 456 [(16, .int (nI w)), (15, .int (GA.2 2 (1 * 12 + lead))), (14, .int (nI lead)), (13, .int (nI u)), (12, .int inn), (8, .int (nI (nwV G))), (6, .long (dgA F (nwV G) nb (nrV G) 0)), (4, .int (nI t)), (3, .ref h), (2, .ref tx), (1, .ref b), (0, .ref 160)] [] A1 n K J := by
    refine xx_dn ?_ ?_
    · intro  A1 K J hK hJ hC3 hS3
      have ei : (nI (nwV G)).toInt = nwV G := enw
      refine J_iload dL_law_456 rfl ?_
      refine J_iload dL_law_458 rfl ?_
      refine J_icmp_ge (tgt := 484) dL_law_460 rfl (fun h460 => ?_) (fun h460 => ?_)
      · refine J_aload_n dL_law_484 rfl rfl ?_
        refine J_callVz (As := []) dL_law_485 ml_L_179 cal_X6_digest im_X6_digest se_X6_digest (hC3.1.at 0 rfl) rfl rfl rfl (Nat.le_of_ble_eq_true rfl) ⟨by decide, by decide⟩ ⟨by omega, by omega⟩ (k_digest hst hC3) (lw_d hC3) (fun A723 hQ723 => ?_)
        have hC723 := hQ723.1
        have hS723 := hS3.cl hQ723.2
        refine J_lload dL_law_488 rfl ?_
        refine J_lcmp dL_law_490 ?_
        rw [lcmp_0]
        refine J_if_eq (tgt := 496) dL_law_491 rfl (fun h491 => ?_) (fun h491 => ?_)
        · refine xx_J.pick [1, 2, 3, 4, 7, 8, 9, 10, 11] rfl ?_
          exact law_D hst hlead (by omega) (fun S F nb r A' n' K' J' a1 a2 a3 a4 a5 => next S F nb r A' n' K' J' a1 a2 a3 (by omega) (by omega)) hC723 hS723 hT hGA.symm hin (by omega) (by omega) ht
        · first | exact absurd h491 (by decide) | exact absurd (by decide) h491
      · first | (exfalso; simp only [i_lt, i_le, i_eq, i_0, i_1, i_2, i_3, i_4, i_5, i_6, i_8, i_9, i_10, i_12, i_16, i_20, i_m1] at h460; omega) | (exfalso; simp only [s_up, a_up, va_up, i_lt, i_le, i_eq, i_0, i_1, i_2, i_3, i_4, i_5, i_6, i_8, i_9, i_10, i_12, i_16, i_20, i_m1, ↓reduceIte, Nat.reduceEqDiff] at h460; omega)
    · intro w hiw ih  A1 K J hK hJ hC3 hS3
      have ei : (nI w).toInt = w := i_n (by omega)
      refine J_iload dL_law_456 rfl ?_
      refine J_iload dL_law_458 rfl ?_
      refine J_icmp_ge (tgt := 484) dL_law_460 rfl (fun h460 => ?_) (fun h460 => ?_)
      · first | (exfalso; simp only [i_lt, i_le, i_eq, i_0, i_1, i_2, i_3, i_4, i_5, i_6, i_8, i_9, i_10, i_12, i_16, i_20, i_m1] at h460; omega) | (exfalso; simp only [s_up, a_up, va_up, i_lt, i_le, i_eq, i_0, i_1, i_2, i_3, i_4, i_5, i_6, i_8, i_9, i_10, i_12, i_16, i_20, i_m1, ↓reduceIte, Nat.reduceEqDiff] at h460; omega)
      · refine J_aload_n dL_law_463 rfl rfl ?_
        refine J_iload dL_law_464 rfl ?_
        refine J_iload dL_law_466 rfl ?_
        refine J_callVz (As := [_, _]) dL_law_468 ml_L_230 cal_X6_pointsAfter im_X6_pointsAfter se_X6_pointsAfter (hC3.1.at 0 rfl) rfl rfl rfl (Nat.le_of_ble_eq_true rfl) ⟨by decide, by decide⟩ ⟨by omega, by omega⟩ (c_X6_pointsAfter hst hC3.1 hC3.2.1 _ _ ruG_v ruG_c) (lw_q hC3 (ap w hiw)) (fun A803 hQ803 => ?_)
        have hC803 := hQ803.1
        have hS803 := hS3.cl hQ803.2
        refine J_iload dL_law_471 rfl ?_
        refine J_icmp_le (tgt := 478) dL_law_473 rfl (fun h473 => ?_) (fun h473 => ?_)
        · refine J_iinc (v := _ + 1) (L' := [(16, _), (15, _), (14, _), (13, _), (12, _), (8, _), (6, _), (4, _), (3, _), (2, _), (1, _), (0, _)]) dL_law_478 rfl rfl (by decide) rfl ?_
          refine J_goto (tgt := 456) dL_law_481 rfl ?_
          rw [nI_1]
          refine xx_J.pick [0, 1, 2, 3, 4, 5, 6, 7, 8, 9, 10, 11] rfl ?_
          exact ih _ _ _ (by omega) (by omega) hC803 hS803
        · exact absurd (by rw [hlead]; exact pts_top hiw) h473
  refine xx_J.pick [0, 1, 2, 3, 4, 5, 6, 8, 9, 10, 11, 12] rfl ?_
  exact loop 0 (Nat.zero_le _) _ _ _ (by omega) (by omega) hC602 hS602
set_option maxRecDepth 100000 in
set_option maxHeartbeats 8000000 in
theorem law_B (hst : l.stackTraces = false) {K0 J0 : Nat} {x : Int32} (next : ∀ S F nb r A' n' K' J', cI G b F nb r A' → sI G b h S A' → tiS S F (nwV G) nb r → K' ≤ K0 + 6500 → J' ≤ J0 + 120000 → xx_J G l mL_law 2048 84000 600086 7301442 lawP 40 [(4, .int (nI (t + 1))), (3, .ref h), (2, .ref tx), (1, .ref b), (0, .ref 160)] [] A' n' K' J')
  (hC : cI G b F nb r A) (hS : sI G b h S A) (hT : tiS S F (nwV G) nb r) (hK : K0 ≤ 200000) (hJ : J0 ≤ 3500000) (ht : t < 9) : xx_J G l mL_law 2048 84000 600086 7301442 lawP 77 [(5, .int x), (4, .int (nI t)), (3, .ref h), (2, .ref tx), (1, .ref b), (0, .ref 160)] [] A n K0 J0 := by
  have hnw := nwV_lt (G := G)
  have h12 : nwV G ≤ 12 := by omega
  have hbd := hT.bd
  have enw : (nI (nwV G)).toInt = nwV G := i_n (by omega)
  refine J_aload_n dL_law_77 rfl rfl ?_
  refine J_callVz (As := []) dL_law_78 ml_L_179 cal_X6_digest im_X6_digest se_X6_digest (hC.1.at 0 rfl) rfl rfl rfl (Nat.le_of_ble_eq_true rfl) ⟨by decide, by decide⟩ ⟨by omega, by omega⟩ (k_digest hst hC) (lw_d hC) (fun A801 hQ801 => ?_)
  have hC801 := hQ801.1
  have hS801 := hS.cl hQ801.2
  refine J_lstore (L' := [(6, _), (5, _), (4, _), (3, _), (2, _), (1, _), (0, _)]) dL_law_81 (by decide) rfl ?_
  refine J_aload_n dL_law_83 rfl rfl ?_
  refine J_callVr (As := []) dL_law_84 ml_L_183 cal_X6_wrestlers im_X6_wrestlers se_X6_wrestlers (hC801.1.at 0 rfl) rfl rfl rfl (Nat.le_of_ble_eq_true rfl) ⟨by decide, by decide⟩ ⟨by omega, by omega⟩ (k_wrs hst hC801) ?_
  refine J_istore (L' := [(8, _), (6, _), (5, _), (4, _), (3, _), (2, _), (1, _), (0, _)]) dL_law_87 (by decide) rfl ?_
  refine J_iconst (v := 0) dL_law_89 (by decide) ?_
  refine J_istore (L' := [(9, _), (8, _), (6, _), (5, _), (4, _), (3, _), (2, _), (1, _), (0, _)]) dL_law_90 (by decide) rfl ?_
  refine J_iconst (v := 0) dL_law_92 (by decide) ?_
  refine J_istore (L' := [(10, _), (9, _), (8, _), (6, _), (5, _), (4, _), (3, _), (2, _), (1, _), (0, _)]) dL_law_93 (by decide) rfl ?_
  refine J_iconst (v := 0) dL_law_95 (by decide) ?_
  refine J_istore (L' := [(11, _), (10, _), (9, _), (8, _), (6, _), (5, _), (4, _), (3, _), (2, _), (1, _), (0, _)]) dL_law_96 (by decide) rfl ?_
  refine J_iconst (v := 0) dL_law_98 (by decide) ?_
  refine J_istore (L' := [(12, _), (11, _), (10, _), (9, _), (8, _), (6, _), (5, _), (4, _), (3, _), (2, _), (1, _), (0, _)]) dL_law_99 (by decide) rfl ?_
  refine J_iconst (v := 0) dL_law_101 (by decide) ?_
  refine J_istore (L' := [(13, _), (12, _), (11, _), (10, _), (9, _), (8, _), (6, _), (5, _), (4, _), (3, _), (2, _), (1, _), (0, _)]) dL_law_102 (by decide) rfl ?_
  have loop : ∀ w, w ≤ nwV G → ∀  (A1 : xx_H) (K J : Nat), K + 150 * (nwV G - w) ≤ (K0 + 1100) → J + 1000 * (nwV G - w) ≤ (J0 + 9000) → (cI G b F nb r A1) → (sI G b h S A1) → xx_J G l mL_law 2048 84000 600086 7301442 (lawP) 104 [(13, .int (nI w)), (12, .int (bx_sum (fun w => F.2 2 (8 * 12 + w)) w)), (11, .int (bx_sum (fun w => F.2 2 (6 * 12 + w)) w)), (10, .int (bx_sum (fun w => F.2 2 (4 * 12 + w)) w)), (9, .int (bx_sum (fun w => F.2 2 (2 * 12 + w)) w)), (8, .int (nI (nwV G))), (6, .long (dgA F (nwV G) nb (nrV G) 0)), (5, .int x), (4, .int (nI t)), (3, .ref h), (2, .ref tx), (1, .ref b), (0, .ref 160)] [] A1 n K J := by
    refine xx_dn ?_ ?_
    · intro  A1 K J hK hJ hC3 hS3
      have ei : (nI (nwV G)).toInt = nwV G := enw
      refine J_iload dL_law_104 rfl ?_
      refine J_iload dL_law_106 rfl ?_
      refine J_icmp_ge (tgt := 400) dL_law_108 rfl (fun h108 => ?_) (fun h108 => ?_)
      · refine J_iload dL_law_400 rfl ?_
        refine J_iload dL_law_402 rfl ?_
        refine J_icmp_ne (tgt := 421) dL_law_404 rfl (fun h404 => ?_) (fun h404 => ?_)
        · exact absurd (win_los hT.2.2.1 hT.bA h12) h404
        · refine J_iload dL_law_407 rfl ?_
          refine J_if_ne (tgt := 421) dL_law_409 rfl (fun h409 => ?_) (fun h409 => ?_)
          · exact absurd (blt_0 hT.2.2.1 hT.bA h12) h409
          · refine J_iload dL_law_412 rfl ?_
            refine J_aload_n dL_law_414 rfl rfl ?_
            refine J_callVr (As := []) dL_law_415 ml_L_224 cal_X6_wrestlersIn im_X6_wrestlersIn se_X6_wrestlersIn (hC3.1.at 0 rfl) rfl rfl rfl (Nat.le_of_ble_eq_true rfl) ⟨by decide, by decide⟩ ⟨by omega, by omega⟩ (k_in hst hC3) ?_
            refine J_icmp_eq (tgt := 423) dL_law_418 rfl (fun h418 => ?_) (fun h418 => ?_)
            · refine xx_J.pick [1, 5, 6, 7, 8, 9, 10, 11, 12] rfl ?_
              exact law_C hst (fun S F nb r A' n' K' J' a1 a2 a3 a4 a5 => next S F nb r A' n' K' J' a1 a2 a3 (by omega) (by omega)) hC3 hS3 hT rfl (by omega) (by omega) ht
            · exact absurd rfl h418
      · first | (exfalso; simp only [i_lt, i_le, i_eq, i_0, i_1, i_2, i_3, i_4, i_5, i_6, i_8, i_9, i_10, i_12, i_16, i_20, i_m1] at h108; omega) | (exfalso; simp only [s_up, a_up, va_up, i_lt, i_le, i_eq, i_0, i_1, i_2, i_3, i_4, i_5, i_6, i_8, i_9, i_10, i_12, i_16, i_20, i_m1, ↓reduceIte, Nat.reduceEqDiff] at h108; omega)
    · intro w hiw ih  A1 K J hK hJ hC3 hS3
      have ei : (nI w).toInt = w := i_n (by omega)
      have rest : ∀ (A1 : xx_H) (K1 J1 : Nat), cI G b F nb r A1 → sI G b h S A1 → K1 + 100 + 150 * (nwV G - (w + 1)) ≤ K0 + 1100 → J1 + 700 + 1000 * (nwV G - (w + 1)) ≤ J0 + 9000 → xx_J G l mL_law 2048 84000 600086 7301442 lawP 163 [(13, .int (nI w)), (12, .int (bx_sum (fun w => F.2 2 (8 * 12 + w)) (w + 1))), (11, .int (bx_sum (fun w => F.2 2 (6 * 12 + w)) (w + 1))), (10, .int (bx_sum (fun w => F.2 2 (4 * 12 + w)) (w + 1))), (9, .int (bx_sum (fun w => F.2 2 (2 * 12 + w)) (w + 1))), (8, .int (nI (nwV G))), (6, .long (dgA F (nwV G) nb (nrV G) 0)), (5, .int x), (4, .int (nI t)), (3, .ref h), (2, .ref tx), (1, .ref b), (0, .ref 160)] [] A1 n K1 J1 := by
        intro A1 K1 J1 hC5 hS5 hK5 hJ5
        refine J_iconst (v := 0) dL_law_163 (by decide) ?_
        refine J_istore (L' := [(14, _), (13, _), (12, _), (11, _), (10, _), (9, _), (8, _), (6, _), (5, _), (4, _), (3, _), (2, _), (1, _), (0, _)]) dL_law_164 (by decide) rfl ?_
        refine J_iconst (v := 0) dL_law_166 (by decide) ?_
        refine J_istore (L' := [(15, _), (14, _), (13, _), (12, _), (11, _), (10, _), (9, _), (8, _), (6, _), (5, _), (4, _), (3, _), (2, _), (1, _), (0, _)]) dL_law_167 (by decide) rfl ?_
        refine J_iconst (v := 0) dL_law_169 (by decide) ?_
        refine J_istore (L' := [(16, _), (15, _), (14, _), (13, _), (12, _), (11, _), (10, _), (9, _), (8, _), (6, _), (5, _), (4, _), (3, _), (2, _), (1, _), (0, _)]) dL_law_170 (by decide) rfl ?_
        have inner : ∀ v, v ≤ nwV G → ∀  (A1 : xx_H) (K J : Nat), K + 11 * (nwV G - v) ≤ (K1 + 70) → J + 66 * (nwV G - v) ≤ (J1 + 420) → (cI G b F nb r A1) → (sI G b h S A1) → xx_J G l mL_law 2048 84000 600086 7301442 (lawP) 172 [(16, .int (nI v)), (15, .int (bx_sum (fun v => F.2 3 (w * 12 + v) * F.2 2 (1 * 12 + v)) v)), (14, .int (bx_sum (fun v => F.2 3 (w * 12 + v)) v)), (13, .int (nI w)), (12, .int (bx_sum (fun w => F.2 2 (8 * 12 + w)) (w + 1))), (11, .int (bx_sum (fun w => F.2 2 (6 * 12 + w)) (w + 1))), (10, .int (bx_sum (fun w => F.2 2 (4 * 12 + w)) (w + 1))), (9, .int (bx_sum (fun w => F.2 2 (2 * 12 + w)) (w + 1))), (8, .int (nI (nwV G))), (6, .long (dgA F (nwV G) nb (nrV G) 0)), (5, .int x), (4, .int (nI t)), (3, .ref h), (2, .ref tx), (1, .ref b), (0, .ref 160)] [] A1 n K J := by
          refine xx_dn ?_ ?_
          · intro  A1 K J hK hJ hC6 hS6
            have ev : (nI (nwV G)).toInt = nwV G := enw
            refine J_iload dL_law_172 rfl ?_
            refine J_iload dL_law_174 rfl ?_
            refine J_icmp_ge (tgt := 250) dL_law_176 rfl (fun h176 => ?_) (fun h176 => ?_)
            · rw [met_sum hT.2.2.1 hT.bA h12 hiw]
              obtain ⟨x1, y1, z1, ex1, ey1, ez1, hxyz⟩ := wdl_le hT.bA h12 hiw
              obtain ⟨f1, ef1, hf1⟩ := fl_le hT.bA hiw h12
              obtain ⟨hb1, hb2⟩ := bl_le (S := S) (w := w) (by omega)
              have hbw := bw_le (S := S) (w := w)
              have hNr := hT.2.2.2.2.1 w hiw
              obtain ⟨c0, c1, c2, c3, c4, c5, c6, c7, c9⟩ := hT.2.2.1.1 w hiw
              rw [ex1] at c2
              rw [ey1] at c3
              rw [ez1] at c4
              rw [rs_cn] at c5
              rw [ef1] at c7
              rw [← c6] at hb1 hb2
              have tm : (nI (bwN S w)).toInt = bwN S w := i_n (by omega)
              have tr : (nI r).toInt = r := i_n (by omega)
              have tn : (-(nI (bwN S w))).toInt = -(bwN S w : Int) := neg_n (by omega)
              obtain ⟨hrk1, hrk2⟩ := rank_at (F := F) hiw
              obtain ⟨rk, hrk⟩ : ∃ rk, rk = rkN (f_R F (nwV G)) (nwV G) w := ⟨_, rfl⟩
              rw [← hrk] at hrk1 hrk2
              have ark := an_rnk hT hiw
              rw [← hrk] at ark
              have trk : (nI rk).toInt = rk := i_n (by omega)
              refine J_aload_n dL_law_250 rfl rfl ?_
              refine J_iload dL_law_251 rfl ?_
              refine J_callVz (As := [_]) dL_law_253 ml_L_203 cal_X6_rankOf im_X6_rankOf se_X6_rankOf (hC6.1.at 0 rfl) rfl rfl rfl (Nat.le_of_ble_eq_true rfl) ⟨by decide, by decide⟩ ⟨by omega, by omega⟩ (c_X6_rankOf hst hC6.1 hC6.2.1 _) (lw_q hC6 (ark)) (fun A1252 hQ1252 => ?_)
              have hC1252 := hQ1252.1
              have hS1252 := hS6.cl hQ1252.2
              refine J_istore (L' := [(16, _), (15, _), (14, _), (13, _), (12, _), (11, _), (10, _), (9, _), (8, _), (6, _), (5, _), (4, _), (3, _), (2, _), (1, _), (0, _)]) dL_law_256 (by decide) rfl ?_
              refine J_iload dL_law_258 rfl ?_
              refine J_aload_n dL_law_260 rfl rfl ?_
              refine J_iload dL_law_261 rfl ?_
              refine J_callVz (As := [_]) dL_law_263 ml_L_206 cal_X6_pointsOfMet im_X6_pointsOfMet se_X6_pointsOfMet (hC1252.1.at 0 rfl) rfl rfl rfl (Nat.le_of_ble_eq_true rfl) ⟨by decide, by decide⟩ ⟨by omega, by omega⟩ (c_X6_pointsOfMet hst hC1252.1 hC1252.2.1 _) (lw_q hC1252 (an_rpt hT hiw)) (fun A1253 hQ1253 => ?_)
              have hC1253 := hQ1253.1
              have hS1253 := hS1252.cl hQ1253.2
              refine J_icmp_ne (tgt := 364) dL_law_266 rfl (fun h266 => ?_) (fun h266 => ?_)
              · exact absurd rfl h266
              · refine J_iload dL_law_269 rfl ?_
                refine J_aload_n dL_law_271 rfl rfl ?_
                refine J_callVr (As := []) dL_law_272 ml_L_209 cal_X6_rounds im_X6_rounds se_X6_rounds (hC1253.1.at 0 rfl) rfl rfl rfl (Nat.le_of_ble_eq_true rfl) ⟨by decide, by decide⟩ ⟨by omega, by omega⟩ (k_rounds hst hC1253) ?_
                refine J_icmp_gt (tgt := 364) dL_law_275 rfl (fun h275 => ?_) (fun h275 => ?_)
                · exfalso; simp only [gt_iff_lt, ge_iff_le, i_lt, i_le] at h275; rw [tm, tr] at h275; omega
                · refine J_aload_n dL_law_278 rfl rfl ?_
                  refine J_iload dL_law_279 rfl ?_
                  refine J_callVz (As := [_]) dL_law_281 ml_L_185 cal_X6_winsOf im_X6_winsOf se_X6_winsOf (hC1253.1.at 0 rfl) rfl rfl rfl (Nat.le_of_ble_eq_true rfl) ⟨by decide, by decide⟩ ⟨by omega, by omega⟩ (c_X6_winsOf hst hC1253.1 hC1253.2.1 _) (lw_q hC1253 (an_of hT hiw)) (fun A1254 hQ1254 => ?_)
                  have hC1254 := hQ1254.1
                  have hS1254 := hS1253.cl hQ1254.2
                  refine J_aload_n dL_law_284 rfl rfl ?_
                  refine J_iload dL_law_285 rfl ?_
                  refine J_callVz (As := [_]) dL_law_287 ml_L_212 cal_X6_drawsOf im_X6_drawsOf se_X6_drawsOf (hC1254.1.at 0 rfl) rfl rfl rfl (Nat.le_of_ble_eq_true rfl) ⟨by decide, by decide⟩ ⟨by omega, by omega⟩ (c_X6_drawsOf hst hC1254.1 hC1254.2.1 _) (lw_q hC1254 (an_of hT hiw)) (fun A1255 hQ1255 => ?_)
                  have hC1255 := hQ1255.1
                  have hS1255 := hS1254.cl hQ1255.2
                  refine J_iadd dL_law_290 ?_
                  rw [c2, c3, nI_add]
                  refine J_aload_n dL_law_291 rfl rfl ?_
                  refine J_iload dL_law_292 rfl ?_
                  refine J_callVz (As := [_]) dL_law_294 ml_L_188 cal_X6_lossesOf im_X6_lossesOf se_X6_lossesOf (hC1255.1.at 0 rfl) rfl rfl rfl (Nat.le_of_ble_eq_true rfl) ⟨by decide, by decide⟩ ⟨by omega, by omega⟩ (c_X6_lossesOf hst hC1255.1 hC1255.2.1 _) (lw_q hC1255 (an_of hT hiw)) (fun A1256 hQ1256 => ?_)
                  have hC1256 := hQ1256.1
                  have hS1256 := hS1255.cl hQ1256.2
                  refine J_iadd dL_law_297 ?_
                  rw [c4, nI_add]
                  refine J_iload dL_law_298 rfl ?_
                  refine J_icmp_gt (tgt := 364) dL_law_300 rfl (fun h300 => ?_) (fun h300 => ?_)
                  · exfalso; simp only [gt_iff_lt, ge_iff_le, i_lt, i_le] at h300; rw [tm, i_n (by omega)] at h300; omega
                  · refine J_iload dL_law_303 rfl ?_
                    refine J_aload_n dL_law_305 rfl rfl ?_
                    refine J_iload dL_law_306 rfl ?_
                    refine J_callVz (As := [_]) dL_law_308 ml_L_215 cal_X6_restsOf im_X6_restsOf se_X6_restsOf (hC1256.1.at 0 rfl) rfl rfl rfl (Nat.le_of_ble_eq_true rfl) ⟨by decide, by decide⟩ ⟨by omega, by omega⟩ (c_X6_restsOf hst hC1256.1 hC1256.2.1 _) (lw_q hC1256 (an_of hT hiw)) (fun A1257 hQ1257 => ?_)
                    have hC1257 := hQ1257.1
                    have hS1257 := hS1256.cl hQ1257.2
                    refine J_iadd dL_law_311 ?_
                    rw [c5, nI_add]
                    refine J_aload_n dL_law_312 rfl rfl ?_
                    refine J_callVr (As := []) dL_law_313 ml_L_209 cal_X6_rounds im_X6_rounds se_X6_rounds (hC1257.1.at 0 rfl) rfl rfl rfl (Nat.le_of_ble_eq_true rfl) ⟨by decide, by decide⟩ ⟨by omega, by omega⟩ (k_rounds hst hC1257) ?_
                    refine J_icmp_gt (tgt := 364) dL_law_316 rfl (fun h316 => ?_) (fun h316 => ?_)
                    · exfalso; simp only [gt_iff_lt, ge_iff_le, i_lt, i_le] at h316; rw [tr, i_n (by omega)] at h316; omega
                    · refine J_aload_n dL_law_319 rfl rfl ?_
                      refine J_iload dL_law_320 rfl ?_
                      refine J_callVz (As := [_]) dL_law_322 ml_L_191 cal_X6_beltsOf im_X6_beltsOf se_X6_beltsOf (hC1257.1.at 0 rfl) rfl rfl rfl (Nat.le_of_ble_eq_true rfl) ⟨by decide, by decide⟩ ⟨by omega, by omega⟩ (c_X6_beltsOf hst hC1257.1 hC1257.2.1 _) (lw_q hC1257 (an_of hT hiw)) (fun A1258 hQ1258 => ?_)
                      have hC1258 := hQ1258.1
                      have hS1258 := hS1257.cl hQ1258.2
                      refine J_iload dL_law_325 rfl ?_
                      refine J_icmp_gt (tgt := 364) dL_law_327 rfl (fun h327 => ?_) (fun h327 => ?_)
                      · exfalso; simp only [gt_iff_lt, ge_iff_le, i_lt, i_le] at h327; rw [tm] at h327; omega
                      · refine J_aload_n dL_law_330 rfl rfl ?_
                        refine J_iload dL_law_331 rfl ?_
                        refine J_callVz (As := [_]) dL_law_333 ml_L_191 cal_X6_beltsOf im_X6_beltsOf se_X6_beltsOf (hC1258.1.at 0 rfl) rfl rfl rfl (Nat.le_of_ble_eq_true rfl) ⟨by decide, by decide⟩ ⟨by omega, by omega⟩ (c_X6_beltsOf hst hC1258.1 hC1258.2.1 _) (lw_q hC1258 (an_of hT hiw)) (fun A1259 hQ1259 => ?_)
                        have hC1259 := hQ1259.1
                        have hS1259 := hS1258.cl hQ1259.2
                        refine J_iload dL_law_336 rfl ?_
                        refine J_ineg dL_law_338 ?_
                        refine J_icmp_lt (tgt := 364) dL_law_339 rfl (fun h339 => ?_) (fun h339 => ?_)
                        · exfalso; simp only [gt_iff_lt, ge_iff_le, i_lt, i_le] at h339; rw [tn] at h339; omega
                        · refine J_aload_n dL_law_342 rfl rfl ?_
                          refine J_iload dL_law_343 rfl ?_
                          refine J_callVz (As := [_]) dL_law_345 ml_L_218 cal_X6_floatsOf im_X6_floatsOf se_X6_floatsOf (hC1259.1.at 0 rfl) rfl rfl rfl (Nat.le_of_ble_eq_true rfl) ⟨by decide, by decide⟩ ⟨by omega, by omega⟩ (c_X6_floatsOf hst hC1259.1 hC1259.2.1 _) (lw_q hC1259 (an_of hT hiw)) (fun A1260 hQ1260 => ?_)
                          have hC1260 := hQ1260.1
                          have hS1260 := hS1259.cl hQ1260.2
                          refine J_iload dL_law_348 rfl ?_
                          refine J_icmp_gt (tgt := 364) dL_law_350 rfl (fun h350 => ?_) (fun h350 => ?_)
                          · exfalso; simp only [gt_iff_lt, ge_iff_le, i_lt, i_le] at h350; rw [tm, c7, i_n (by omega)] at h350; omega
                          · refine J_aload_n dL_law_353 rfl rfl ?_
                            refine J_iload dL_law_354 rfl ?_
                            refine J_callVz (As := [_]) dL_law_356 ml_L_221 cal_X6_wrestlerAt im_X6_wrestlerAt se_X6_wrestlerAt (hC1260.1.at 0 rfl) rfl rfl rfl (Nat.le_of_ble_eq_true rfl) ⟨by decide, by decide⟩ ⟨by omega, by omega⟩ (c_X6_wrestlerAt hst hC1260.1 hC1260.2.1 _) (lw_q hC1260 (an_at hT hrk1)) (fun A1261 hQ1261 => ?_)
                            have hC1261 := hQ1261.1
                            have hS1261 := hS1260.cl hQ1261.2
                            refine J_iload dL_law_359 rfl ?_
                            refine J_icmp_eq (tgt := 366) dL_law_361 rfl (fun h361 => ?_) (fun h361 => ?_)
                            · refine J_iload dL_law_366 rfl ?_
                              refine J_if_le (tgt := 394) dL_law_368 rfl (fun h368 => ?_) (fun h368 => ?_)
                              · refine J_iinc (v := _ + 1) (L' := [(13, _), (16, _), (15, _), (14, _), (12, _), (11, _), (10, _), (9, _), (8, _), (6, _), (5, _), (4, _), (3, _), (2, _), (1, _), (0, _)]) dL_law_394 rfl rfl (by decide) rfl ?_
                                refine J_goto (tgt := 104) dL_law_397 rfl ?_
                                refine xx_J.pick [0, 4, 5, 6, 7, 8, 9, 10, 11, 12, 13, 14, 15] rfl ?_
                                rw [nI_1]
                                exact ih _ _ _ (by omega) (by omega) hC1261 hS1261
                              · refine J_aload_n dL_law_371 rfl rfl ?_
                                refine J_aload_n dL_law_372 rfl rfl ?_
                                refine J_iload dL_law_373 rfl ?_
                                refine J_iconst (v := 1) dL_law_375 (by decide) ?_
                                have hrk0 : 0 < rk := by rw [i_le, trk, i_0] at h368; omega
                                refine J_isub dL_law_376 ?_
                                rw [show nI rk - 1 = nI (rk - 1) by rw [show rk = (rk - 1) + 1 by omega, ← nI_1]; simp]
                                refine J_callVz (As := [_]) dL_law_377 ml_L_221 cal_X6_wrestlerAt im_X6_wrestlerAt se_X6_wrestlerAt (hC1261.1.at 0 rfl) rfl rfl rfl (Nat.le_of_ble_eq_true rfl) ⟨by decide, by decide⟩ ⟨by omega, by omega⟩ (c_X6_wrestlerAt hst hC1261.1 hC1261.2.1 _) (lw_q hC1261 (an_at hT (w := rk - 1) (by omega))) (fun A1262 hQ1262 => ?_)
                                have hC1262 := hQ1262.1
                                have hS1262 := hS1261.cl hQ1262.2
                                refine J_callVz (As := [_]) dL_law_380 ml_L_200 cal_X6_pointsOf im_X6_pointsOf se_X6_pointsOf (hC1262.1.at 0 rfl) rfl rfl rfl (Nat.le_of_ble_eq_true rfl) ⟨by decide, by decide⟩ ⟨by omega, by omega⟩ (c_X6_pointsOf hst hC1262.1 hC1262.2.1 _) (lw_q hC1262 (an_of hT (ls_at (F := F) (x := rk - 1) (by omega)))) (fun A1263 hQ1263 => ?_)
                                have hC1263 := hQ1263.1
                                have hS1263 := hS1262.cl hQ1263.2
                                refine J_aload_n dL_law_383 rfl rfl ?_
                                refine J_iload dL_law_384 rfl ?_
                                refine J_callVz (As := [_]) dL_law_386 ml_L_200 cal_X6_pointsOf im_X6_pointsOf se_X6_pointsOf (hC1263.1.at 0 rfl) rfl rfl rfl (Nat.le_of_ble_eq_true rfl) ⟨by decide, by decide⟩ ⟨by omega, by omega⟩ (c_X6_pointsOf hst hC1263.1 hC1263.2.1 _) (lw_q hC1263 (an_of hT hiw)) (fun A1264 hQ1264 => ?_)
                                have hC1264 := hQ1264.1
                                have hS1264 := hS1263.cl hQ1264.2
                                refine J_icmp_ge (tgt := 394) dL_law_389 rfl (fun h389 => ?_) (fun h389 => ?_)
                                · refine J_iinc (v := _ + 1) (L' := [(13, _), (16, _), (15, _), (14, _), (12, _), (11, _), (10, _), (9, _), (8, _), (6, _), (5, _), (4, _), (3, _), (2, _), (1, _), (0, _)]) dL_law_394 rfl rfl (by decide) rfl ?_
                                  refine J_goto (tgt := 104) dL_law_397 rfl ?_
                                  refine xx_J.pick [0, 4, 5, 6, 7, 8, 9, 10, 11, 12, 13, 14, 15] rfl ?_
                                  rw [nI_1]
                                  exact ih _ _ _ (by omega) (by omega) hC1264 hS1264
                                · exfalso; apply h389; have zz := pts_le (F := F) (x := rk - 1) (y := rk) (by omega) hrk1; rw [hrk2] at zz; exact zz
                            · exact absurd (by rw [hrk2]) h361
            · first | (exfalso; simp only [i_lt, i_le, i_eq, i_0, i_1, i_2, i_3, i_4, i_5, i_6, i_8, i_9, i_10, i_12, i_16, i_20, i_m1] at h176; omega) | (exfalso; simp only [s_up, a_up, va_up, i_lt, i_le, i_eq, i_0, i_1, i_2, i_3, i_4, i_5, i_6, i_8, i_9, i_10, i_12, i_16, i_20, i_m1, ↓reduceIte, Nat.reduceEqDiff] at h176; omega)
          · intro v hiv ih  A1 K J hK hJ hC6 hS6
            have ev : (nI v).toInt = v := i_n (by omega)
            refine J_iload dL_law_172 rfl ?_
            refine J_iload dL_law_174 rfl ?_
            refine J_icmp_ge (tgt := 250) dL_law_176 rfl (fun h176 => ?_) (fun h176 => ?_)
            · first | (exfalso; simp only [i_lt, i_le, i_eq, i_0, i_1, i_2, i_3, i_4, i_5, i_6, i_8, i_9, i_10, i_12, i_16, i_20, i_m1] at h176; omega) | (exfalso; simp only [s_up, a_up, va_up, i_lt, i_le, i_eq, i_0, i_1, i_2, i_3, i_4, i_5, i_6, i_8, i_9, i_10, i_12, i_16, i_20, i_m1, ↓reduceIte, Nat.reduceEqDiff] at h176; omega)
            · refine J_iload dL_law_179 rfl ?_
              refine J_aload_n dL_law_181 rfl rfl ?_
              refine J_iload dL_law_182 rfl ?_
              refine J_iload dL_law_184 rfl ?_
              refine J_callVz (As := [_, _]) dL_law_186 ml_L_197 cal_X6_timesMet im_X6_timesMet se_X6_timesMet (hC6.1.at 0 rfl) rfl rfl rfl (Nat.le_of_ble_eq_true rfl) ⟨by decide, by decide⟩ ⟨by omega, by omega⟩ (c_X6_timesMet hst hC6.1 hC6.2.1 _ _) (lw_q hC6 (an_met hT hiw hiv)) (fun A1302 hQ1302 => ?_)
              have hC1302 := hQ1302.1
              have hS1302 := hS6.cl hQ1302.2
              refine J_iadd dL_law_189 ?_
              refine J_istore (L' := [(14, _), (16, _), (15, _), (13, _), (12, _), (11, _), (10, _), (9, _), (8, _), (6, _), (5, _), (4, _), (3, _), (2, _), (1, _), (0, _)]) dL_law_190 (by decide) rfl ?_
              refine J_iload dL_law_192 rfl ?_
              refine J_aload_n dL_law_194 rfl rfl ?_
              refine J_iload dL_law_195 rfl ?_
              refine J_iload dL_law_197 rfl ?_
              refine J_callVz (As := [_, _]) dL_law_199 ml_L_197 cal_X6_timesMet im_X6_timesMet se_X6_timesMet (hC1302.1.at 0 rfl) rfl rfl rfl (Nat.le_of_ble_eq_true rfl) ⟨by decide, by decide⟩ ⟨by omega, by omega⟩ (c_X6_timesMet hst hC1302.1 hC1302.2.1 _ _) (lw_q hC1302 (an_met hT hiw hiv)) (fun A1303 hQ1303 => ?_)
              have hC1303 := hQ1303.1
              have hS1303 := hS1302.cl hQ1303.2
              refine J_aload_n dL_law_202 rfl rfl ?_
              refine J_iload dL_law_203 rfl ?_
              refine J_callVz (As := [_]) dL_law_205 ml_L_200 cal_X6_pointsOf im_X6_pointsOf se_X6_pointsOf (hC1303.1.at 0 rfl) rfl rfl rfl (Nat.le_of_ble_eq_true rfl) ⟨by decide, by decide⟩ ⟨by omega, by omega⟩ (c_X6_pointsOf hst hC1303.1 hC1303.2.1 _) (lw_q hC1303 (an_of hT hiv)) (fun A1304 hQ1304 => ?_)
              have hC1304 := hQ1304.1
              have hS1304 := hS1303.cl hQ1304.2
              refine J_imul dL_law_208 ?_
              refine J_iadd dL_law_209 ?_
              refine J_istore (L' := [(15, _), (14, _), (16, _), (13, _), (12, _), (11, _), (10, _), (9, _), (8, _), (6, _), (5, _), (4, _), (3, _), (2, _), (1, _), (0, _)]) dL_law_210 (by decide) rfl ?_
              refine J_aload_n dL_law_212 rfl rfl ?_
              refine J_iload dL_law_213 rfl ?_
              refine J_iload dL_law_215 rfl ?_
              refine J_callVz (As := [_, _]) dL_law_217 ml_L_197 cal_X6_timesMet im_X6_timesMet se_X6_timesMet (hC1304.1.at 0 rfl) rfl rfl rfl (Nat.le_of_ble_eq_true rfl) ⟨by decide, by decide⟩ ⟨by omega, by omega⟩ (c_X6_timesMet hst hC1304.1 hC1304.2.1 _ _) (lw_q hC1304 (an_met hT hiw hiv)) (fun A1305 hQ1305 => ?_)
              have hC1305 := hQ1305.1
              have hS1305 := hS1304.cl hQ1305.2
              refine J_aload_n dL_law_220 rfl rfl ?_
              refine J_iload dL_law_221 rfl ?_
              refine J_iload dL_law_223 rfl ?_
              refine J_callVz (As := [_, _]) dL_law_225 ml_L_197 cal_X6_timesMet im_X6_timesMet se_X6_timesMet (hC1305.1.at 0 rfl) rfl rfl rfl (Nat.le_of_ble_eq_true rfl) ⟨by decide, by decide⟩ ⟨by omega, by omega⟩ (c_X6_timesMet hst hC1305.1 hC1305.2.1 _ _) (lw_q hC1305 (an_met hT hiv hiw)) (fun A1306 hQ1306 => ?_)
              have hC1306 := hQ1306.1
              have hS1306 := hS1305.cl hQ1306.2
              refine J_icmp_ne (tgt := 242) dL_law_228 rfl (fun h228 => ?_) (fun h228 => ?_)
              · exact absurd (met_sym hT.2.2.1 hiw hiv) h228
              · refine J_aload_n dL_law_231 rfl rfl ?_
                refine J_iload dL_law_232 rfl ?_
                refine J_iload dL_law_234 rfl ?_
                refine J_callVz (As := [_, _]) dL_law_236 ml_L_197 cal_X6_timesMet im_X6_timesMet se_X6_timesMet (hC1306.1.at 0 rfl) rfl rfl rfl (Nat.le_of_ble_eq_true rfl) ⟨by decide, by decide⟩ ⟨by omega, by omega⟩ (c_X6_timesMet hst hC1306.1 hC1306.2.1 _ _) (lw_q hC1306 (an_met hT hiw hiw)) (fun A1307 hQ1307 => ?_)
                have hC1307 := hQ1307.1
                have hS1307 := hS1306.cl hQ1307.2
                refine J_if_eq (tgt := 244) dL_law_239 rfl (fun h239 => ?_) (fun h239 => ?_)
                · refine J_iinc (v := _ + 1) (L' := [(16, _), (15, _), (14, _), (13, _), (12, _), (11, _), (10, _), (9, _), (8, _), (6, _), (5, _), (4, _), (3, _), (2, _), (1, _), (0, _)]) dL_law_244 rfl rfl (by decide) rfl ?_
                  refine J_goto (tgt := 172) dL_law_247 rfl ?_
                  rw [nI_1]
                  refine xx_J.pick [0, 1, 2, 3, 4, 5, 6, 7, 8, 9, 10, 11, 12, 13, 14, 15] rfl ?_
                  exact ih _ _ _ (by omega) (by omega) hC1307 hS1307
                · exact absurd (met_self hT.2.2.1 hT.bA h12 hiw) h239
        refine xx_J.pick [0, 1, 2, 3, 4, 5, 6, 7, 8, 9, 10, 11, 12, 13, 14, 15] rfl ?_
        exact inner 0 (Nat.zero_le _) _ _ _ (by omega) (by omega) hC5 hS5
      refine J_iload dL_law_104 rfl ?_
      refine J_iload dL_law_106 rfl ?_
      refine J_icmp_ge (tgt := 400) dL_law_108 rfl (fun h108 => ?_) (fun h108 => ?_)
      · first | (exfalso; simp only [i_lt, i_le, i_eq, i_0, i_1, i_2, i_3, i_4, i_5, i_6, i_8, i_9, i_10, i_12, i_16, i_20, i_m1] at h108; omega) | (exfalso; simp only [s_up, a_up, va_up, i_lt, i_le, i_eq, i_0, i_1, i_2, i_3, i_4, i_5, i_6, i_8, i_9, i_10, i_12, i_16, i_20, i_m1, ↓reduceIte, Nat.reduceEqDiff] at h108; omega)
      · refine J_iload dL_law_111 rfl ?_
        refine J_aload_n dL_law_113 rfl rfl ?_
        refine J_iload dL_law_114 rfl ?_
        refine J_callVz (As := [_]) dL_law_116 ml_L_185 cal_X6_winsOf im_X6_winsOf se_X6_winsOf (hC3.1.at 0 rfl) rfl rfl rfl (Nat.le_of_ble_eq_true rfl) ⟨by decide, by decide⟩ ⟨by omega, by omega⟩ (c_X6_winsOf hst hC3.1 hC3.2.1 _) (lw_q hC3 (an_of hT hiw)) (fun A1002 hQ1002 => ?_)
        have hC1002 := hQ1002.1
        have hS1002 := hS3.cl hQ1002.2
        refine J_iadd dL_law_119 ?_
        refine J_istore (L' := [(9, _), (13, _), (12, _), (11, _), (10, _), (8, _), (6, _), (5, _), (4, _), (3, _), (2, _), (1, _), (0, _)]) dL_law_120 (by decide) rfl ?_
        refine J_iload dL_law_122 rfl ?_
        refine J_aload_n dL_law_124 rfl rfl ?_
        refine J_iload dL_law_125 rfl ?_
        refine J_callVz (As := [_]) dL_law_127 ml_L_188 cal_X6_lossesOf im_X6_lossesOf se_X6_lossesOf (hC1002.1.at 0 rfl) rfl rfl rfl (Nat.le_of_ble_eq_true rfl) ⟨by decide, by decide⟩ ⟨by omega, by omega⟩ (c_X6_lossesOf hst hC1002.1 hC1002.2.1 _) (lw_q hC1002 (an_of hT hiw)) (fun A1003 hQ1003 => ?_)
        have hC1003 := hQ1003.1
        have hS1003 := hS1002.cl hQ1003.2
        refine J_iadd dL_law_130 ?_
        refine J_istore (L' := [(10, _), (9, _), (13, _), (12, _), (11, _), (8, _), (6, _), (5, _), (4, _), (3, _), (2, _), (1, _), (0, _)]) dL_law_131 (by decide) rfl ?_
        refine J_iload dL_law_133 rfl ?_
        refine J_aload_n dL_law_135 rfl rfl ?_
        refine J_iload dL_law_136 rfl ?_
        refine J_callVz (As := [_]) dL_law_138 ml_L_191 cal_X6_beltsOf im_X6_beltsOf se_X6_beltsOf (hC1003.1.at 0 rfl) rfl rfl rfl (Nat.le_of_ble_eq_true rfl) ⟨by decide, by decide⟩ ⟨by omega, by omega⟩ (c_X6_beltsOf hst hC1003.1 hC1003.2.1 _) (lw_q hC1003 (an_of hT hiw)) (fun A1004 hQ1004 => ?_)
        have hC1004 := hQ1004.1
        have hS1004 := hS1003.cl hQ1004.2
        refine J_iadd dL_law_141 ?_
        refine J_istore (L' := [(11, _), (10, _), (9, _), (13, _), (12, _), (8, _), (6, _), (5, _), (4, _), (3, _), (2, _), (1, _), (0, _)]) dL_law_142 (by decide) rfl ?_
        refine J_iload dL_law_144 rfl ?_
        refine J_aload_n dL_law_146 rfl rfl ?_
        refine J_iload dL_law_147 rfl ?_
        refine J_callVz (As := [_]) dL_law_149 ml_L_194 cal_X6_isIn im_X6_isIn se_X6_isIn (hC1004.1.at 0 rfl) rfl rfl rfl (Nat.le_of_ble_eq_true rfl) ⟨by decide, by decide⟩ ⟨by omega, by omega⟩ (c_X6_isIn hst hC1004.1 hC1004.2.1 _) (lw_q hC1004 (an_in hT hiw)) (fun A1005 hQ1005 => ?_)
        have hC1005 := hQ1005.1
        have hS1005 := hS1004.cl hQ1005.2
        refine J_if_eq (tgt := 159) dL_law_152 rfl (fun h152 => ?_) (fun h152 => ?_)
        · refine J_iconst (v := 0) dL_law_159 (by decide) ?_
          have e8 : F.2 2 (8 * 12 + w) = 0 := Classical.byContradiction fun z => by rw [xx_bt z] at h152; exact absurd h152 (by decide)
          refine J_iadd dL_law_160 ?_
          rw [show bx_sum (fun w => F.2 2 (8 * 12 + w)) w + 0 = bx_sum (fun w => F.2 2 (8 * 12 + w)) (w + 1) by rw [bx_s, e8]]
          refine J_istore (L' := [(12, _), (11, _), (10, _), (9, _), (13, _), (8, _), (6, _), (5, _), (4, _), (3, _), (2, _), (1, _), (0, _)]) dL_law_161 (by decide) rfl ?_
          refine xx_J.pick [4, 0, 1, 2, 3, 5, 6, 7, 8, 9, 10, 11, 12] rfl ?_
          exact rest _ _ _ hC1005 hS1005 (by omega) (by omega)
        · refine J_iconst (v := 1) dL_law_155 (by decide) ?_
          refine J_goto (tgt := 160) dL_law_156 rfl ?_
          have e8 : F.2 2 (8 * 12 + w) = 1 := by
            rcases hT.2.2.1.2.1 w hiw with ⟨-, z⟩ | ⟨-, z⟩
            · exact z
            · exact absurd (by rw [z]; decide) h152
          refine J_iadd dL_law_160 ?_
          rw [show bx_sum (fun w => F.2 2 (8 * 12 + w)) w + 1 = bx_sum (fun w => F.2 2 (8 * 12 + w)) (w + 1) by rw [bx_s, e8]]
          refine J_istore (L' := [(12, _), (11, _), (10, _), (9, _), (13, _), (8, _), (6, _), (5, _), (4, _), (3, _), (2, _), (1, _), (0, _)]) dL_law_161 (by decide) rfl ?_
          refine xx_J.pick [4, 0, 1, 2, 3, 5, 6, 7, 8, 9, 10, 11, 12] rfl ?_
          exact rest _ _ _ hC1005 hS1005 (by omega) (by omega)
  refine xx_J.pick [0, 1, 2, 3, 4, 5, 6, 7, 8, 9, 10, 11, 12] rfl ?_
  exact loop 0 (Nat.zero_le _) _ _ _ (by omega) (by omega) hC801 hS801
set_option maxRecDepth 100000 in
set_option maxHeartbeats 8000000 in
theorem law_step (hst : l.stackTraces = false) (hL : G.2.2.2 400 ≤ 3072) {K0 J0 : Nat} (ht : t < 9) (next : ∀ S F nb r A' n' K' J', cI G b F nb r A' → sI G b h S A' → tiS S F (nwV G) nb r → K' ≤ K0 + 7000 → J' ≤ J0 + 150000 → xx_J G l mL_law 2048 84000 600086 7301442 lawP 40 [(4, .int (nI (t + 1))), (3, .ref h), (2, .ref tx), (1, .ref b), (0, .ref 160)] [] A' n' K' J')
  (hC : cI G b F nb r A) (hS : sI G b h S A) (hT : tiS S F (nwV G) nb r) (hK : K0 ≤ 150000) (hJ : J0 ≤ 3000000) : xx_J G l mL_law 2048 84000 600086 7301442 lawP 40 [(4, .int (nI t)), (3, .ref h), (2, .ref tx), (1, .ref b), (0, .ref 160)] [] A n K0 J0 := by
  have et : (nI t).toInt = t := i_n (by omega)
  refine J_iload dL_law_40 rfl ?_
  refine J_bipush (v := 9) dL_law_42 (by decide) ?_
  refine J_icmp_ge (tgt := 662) dL_law_44 rfl (fun h44 => ?_) (fun h44 => ?_)
  · exfalso; rw [i_le, et, i_9] at h44; omega
  · refine J_aload_n dL_law_47 rfl rfl ?_
    refine J_iconst (v := 2) dL_law_48 (by decide) ?_
    refine J_iload dL_law_49 rfl ?_
    refine J_iadd dL_law_51 ?_
    rw [show (2 : Int32) + nI t = nI (2 + t) from nI_add 2 t]
    refine J_callSr (As := [_, _]) dL_law_52 ml_L_66 cal_L_cell sm_L_cell rfl rfl (Nat.le_of_ble_eq_true rfl) ⟨by decide, by decide⟩ ⟨by omega, by omega⟩ (c_L_cell hst hL (k := 2 + t) (by omega)) ?_
    refine J_iconst (v := 1) dL_law_55 (by decide) ?_
    refine J_ishr dL_law_56 ?_
    refine J_bipush (v := 53) dL_law_57 (by decide) ?_
    refine J_iload dL_law_59 rfl ?_
    refine J_imul dL_law_61 ?_
    refine J_iadd dL_law_62 ?_
    refine J_istore (L' := [(5, _), (4, _), (3, _), (2, _), (1, _), (0, _)]) dL_law_63 (by decide) rfl ?_
    refine J_aload_n dL_law_65 rfl rfl ?_
    refine J_aload_n dL_law_66 rfl rfl ?_
    refine J_iload dL_law_67 rfl ?_
    refine J_callSX (As := [_, _, _]) dL_law_69 ml_L_175 cal_L_act rfl sm_L_act rfl (Nat.le_of_ble_eq_true rfl) ⟨by decide, by decide⟩ ⟨by omega, by omega⟩ (c_L_act hst hC hS hT) (fun v2 A2 n2 _ hQ2 => ?_) (fun E A n _ hq => absurd hq.1 (fun z => nomatch z))
    obtain ⟨ev2, S2, F2, nb2, r2, hC2, hS2, hT2⟩ := hQ2
    cases ev2
    refine J_if_ne (tgt := 77) dL_law_72 rfl (fun h72 => ?_) (fun h72 => ?_)
    · refine xx_J.pick [0, 1, 2, 3, 4, 5] rfl ?_
      exact law_B hst (fun S F nb r A' n' K' J' a1 a2 a3 a4 a5 => next S F nb r A' n' K' J' a1 a2 a3 (by omega) (by omega)) hC2 hS2 hT2 (by omega) (by omega) ht
    · first | exact absurd h72 (by decide) | exact absurd (by decide) h72
set_option maxRecDepth 100000 in
set_option maxHeartbeats 8000000 in
theorem law_loop (hst : l.stackTraces = false) (hL : G.2.2.2 400 ≤ 3072) : ∀ t, t ≤ 9 → ∀ (S : sS) (F : xS) (nb r : Nat) (A : xx_H) (n K0 J0 : Nat), cI G b F nb r A → sI G b h S A → tiS S F (nwV G) nb r → K0 + 7000 * (9 - t) ≤ 70000 → J0 + 150000 * (9 - t) ≤ 2700000 → xx_J G l mL_law 2048 84000 600086 7301442 lawP 40 [(4, .int (nI t)), (3, .ref h), (2, .ref tx), (1, .ref b), (0, .ref 160)] [] A n K0 J0 := by
  refine xx_dn ?_ ?_
  · intro S F nb r A n K0 J0 hC hS hT hK hJ
    refine J_iload dL_law_40 rfl ?_
    refine J_bipush (v := 9) dL_law_42 (by decide) ?_
    refine J_icmp_ge (tgt := 662) dL_law_44 rfl (fun h44 => ?_) (fun h44 => ?_)
    · refine J_aload_n dL_law_662 rfl rfl ?_
      refine J_aload_n dL_law_663 rfl rfl ?_
      refine J_callV (As := [_]) dL_law_664 ml_L_250 cal_X7_isSame im_X7_isSame se_X7_isSame (hS.W.1) rfl rfl rfl (Nat.le_of_ble_eq_true rfl) ⟨by decide, by decide⟩ ⟨by omega, by omega⟩ (c_X7_isSame hst hC hS hT) (fun E A n _ hq => absurd hq (fun z => nomatch z)) (fun v2 A2 n2 _ hQ2 => ?_)
      cases hQ2
      refine J_ireturn dL_law_667 rfl rfl (by omega) (by omega) ?_
      exact rfl
    · exact absurd (by decide) h44
  · intro t ht ih S F nb r A n K0 J0 hC hS hT hK hJ
    exact law_step hst hL ht (fun S F nb r A' n' K' J' a1 a2 a3 a4 a5 => ih S F nb r A' n' K' J' a1 a2 a3 (by omega) (by omega)) hC hS hT (by omega) (by omega)
end XLL
