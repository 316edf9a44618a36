/-! Sim.isSame -/
section XLS
variable {G : xx_G} {l : Launch} {A : xx_H} {n : Nat} {k j i q s e t d b h : Nat} {S : sS} {F : xS} {nb r : Nat}
def sameQ : xx_Q := fun r' A' n' => r' = .inl (some (.int 1))
theorem perm_sum {g : Nat → Int32} {a c : List Nat} (h : a.Perm c) : a.foldr (fun x z => g x + z) 0 = c.foldr (fun x z => g x + z) 0 := by
  induction h with
  | nil => rfl
  | cons x _ ih => show g x + _ = g x + _; rw [ih]
  | swap x y l => show g y + (g x + _) = g x + (g y + _); grind
  | trans _ _ h1 h2 => exact h1.trans h2
theorem fold_bx {g : Nat → Int32} : ∀ m, (List.range m).foldr (fun x z => g x + z) 0 = bx_sum g m := by
  intro m
  induction m with
  | zero => rfl
  | succ m ih =>
    have key : ∀ (L : List Nat) (y : Int32), L.foldr (fun x z => g x + z) y = L.foldr (fun x z => g x + z) 0 + y := by
      intro L
      induction L with
      | nil => intro y; show y = 0 + y; grind
      | cons x L ih => intro y; show g x + _ = g x + _ + y; rw [ih y]; grind
    rw [List.range_succ, List.foldr_append, key, ih, bx_s]
    show bx_sum g m + (g m + 0) = _
    grind
theorem fold_gd {g : Nat → Int32} : ∀ L : List Nat, bx_sum (fun p => g (L.getD p 0)) L.length = L.foldr (fun x z => g x + z) 0 := by
  intro L
  induction L with
  | nil => rfl
  | cons x L ih =>
    have e : bx_sum (fun p => g ((x :: L).getD p 0)) (1 + L.length) = bx_sum (fun p => g ((x :: L).getD p 0)) 1 + bx_sum (fun p => g ((x :: L).getD (1 + p) 0)) L.length := bx_app L.length
    rw [List.length_cons, Nat.add_comm, e]
    show (0 + g x) + _ = g x + _
    rw [← ih]
    have e2 : ∀ p, p < L.length → g ((x :: L).getD (1 + p) 0) = g (L.getD p 0) := fun p _ => by rw [Nat.add_comm]; rfl
    rw [bx_c L.length e2]
    grind
/-- a sum in another order -/
theorem sum_perm {g : Nat → Int32} {ls : List Nat} {m : Nat} (h : ls.Perm (List.range m)) : bx_sum (fun p => g (ls.getD p 0)) m = bx_sum g m := by
  have hl : ls.length = m := by rw [h.length_eq, List.length_range]
  rw [← hl, fold_gd, perm_sum h, fold_bx, hl]
theorem cmp_i (a : Int) : compare a a = .eq := by simp [compare, compareOfLessAndEq]
theorem dcmp_self {x : UInt64} (h : vf_n64 x) : FP.dcmp x x = some .eq := by
  have hx : nn x.toNat := by
    unfold vf_n64 at h
    rw [UInt64.le_iff_toNat_le, UInt64.toNat_and] at h
    have e2 : (9223372036854775807 : UInt64).toNat = 2 ^ 63 - 1 := rfl
    rw [e2, Nat.and_two_pow_sub_one_eq_mod] at h
    exact h
  have hd := dec_nn hx
  show FP.Core.order (FP.Core.decode FP.Core.b64 x.toNat) (FP.Core.decode FP.Core.b64 x.toNat) = some .eq
  cases hc : FP.Core.decode FP.Core.b64 x.toNat with
  | nan => exact absurd hc hd
  | inf s => exact congrArg some (cmp_i _)
  | fin s c q => exact congrArg some (cmp_i _)
set_option maxRecDepth 100000 in
set_option maxHeartbeats 8000000 in
theorem c_X7_isSame (hst : l.stackTraces = false) (hC : cI G b F nb r A) (hS : sI G b h S A) (hT : tiS S F (nwV G) nb r) : xx_C G l yX7_isSame mX7_isSame 12 500 2000 40000 [.ref h, .ref b] A n (sameQ) := by
  have hnw := nwV_lt (G := G)
  have hbd := hT.bd
  have hS60 : S.1 0 = nI (nwV G) := hT.1.1
  have hS65 : S.1 5 = nI r := hT.1.2.1
  have enw : (nI (nwV G)).toInt = nwV G := i_n (by omega)
  have enb : (nI nb).toInt = nb := i_n (by omega)
  have er : (nI r).toInt = r := i_n (by omega)
  refine J_C hst (by decide +kernel) rfl rfl rfl (Nat.le_of_ble_eq_true rfl) ?_
  show xx_J _ _ _ _ _ _ _ _ 0 [(0, _), (1, _)] [] _ _ _ _
  refine J_aload_n dX7_isSame_0 rfl rfl ?_
  refine J_ltA (fun lt0 => ?_)
  refine J_callV (As := []) dX7_isSame_1 ml_X7_124 cal_X7_latest im_X7_latest se_X7_latest (hS.W.1) rfl rfl rfl (Nat.le_of_ble_eq_true rfl) ⟨by decide, by decide⟩ ⟨by omega, by omega⟩ (c_X7_latest hst hS.W hT.n1 hT.n3 (by omega)) (fun E A n _ hq => by obtain ⟨u, f, z, -⟩ := hq; cases z) (fun v8 A1 n1 hn1 hQ8 => ?_)
  obtain ⟨u8, f8, er8, a1, a2, a3, a4, a5⟩ := hQ8
  cases er8
  obtain ⟨lt1, lt2⟩ := hT.lt
  rw [lt1] at a3 a4
  have hhn := lt0 _ _ hS.W.1
  have hh46 := hS.hd.1
  have hC1 := hC.up (fun z hz => a5 z (by omega))
  have hS1 := hS.up lt0 a5
  refine J_astore_n (L' := [(2, _), (0, _), (1, _)]) dX7_isSame_4 rfl (by decide) rfl ?_
  refine J_aload_n dX7_isSame_5 rfl rfl ?_
  refine J_callVr (As := []) dX7_isSame_6 ml_X7_128 cal_X6_wrestlers im_X6_wrestlers se_X6_wrestlers (hC1.1.at 0 rfl) rfl rfl rfl (Nat.le_of_ble_eq_true rfl) ⟨by decide, by decide⟩ ⟨by omega, by omega⟩ (k_wrs hst hC1) ?_
  refine J_aload_n dX7_isSame_9 rfl rfl ?_
  refine J_getf dX7_isSame_10 fl_X7_38 (hS1.W.1) rfl ?_
  refine J_icmp_ne (tgt := 70) dX7_isSame_13 rfl (fun h13 => ?_) (fun h13 => ?_)
  · exact absurd hS60.symm h13
  · refine J_aload_n dX7_isSame_16 rfl rfl ?_
    refine J_callVr (As := []) dX7_isSame_17 ml_X7_132 cal_X6_wrestlersIn im_X6_wrestlersIn se_X6_wrestlersIn (hC1.1.at 0 rfl) rfl rfl rfl (Nat.le_of_ble_eq_true rfl) ⟨by decide, by decide⟩ ⟨by omega, by omega⟩ (k_in hst hC1) ?_
    refine J_aload_n dX7_isSame_20 rfl rfl ?_
    refine J_callVr (As := []) dX7_isSame_21 ml_X7_73 cal_X7_in im_X7_in se_X7_in (hS1.W.1) rfl rfl rfl (Nat.le_of_ble_eq_true rfl) ⟨by decide, by decide⟩ ⟨by omega, by omega⟩ (c_X7_in hst hS1.W hT.n1 hT.n3 hT.1.1 (by omega)) ?_
    refine J_icmp_ne (tgt := 70) dX7_isSame_24 rfl (fun h24 => ?_) (fun h24 => ?_)
    · exact absurd hT.op.2.symm h24
    · refine J_aload_n dX7_isSame_27 rfl rfl ?_
      refine J_callVr (As := []) dX7_isSame_28 ml_X7_135 cal_X6_rules im_X6_rules se_X6_rules (hC1.1.at 0 rfl) rfl rfl rfl (Nat.le_of_ble_eq_true rfl) ⟨by decide, by decide⟩ ⟨by omega, by omega⟩ (k_rules hst hC1) ?_
      refine J_aload_n dX7_isSame_31 rfl rfl ?_
      refine J_getf dX7_isSame_32 fl_X7_16 (hS1.W.1) rfl ?_
      refine J_alen (v := nI (nrV G)) dX7_isSame_35 (by have z := hS1.R.1; rw [hS.2.2.2.1] at z; exact z) (by decide) rfl ?_
      refine J_icmp_ne (tgt := 70) dX7_isSame_36 rfl (fun h36 => ?_) (fun h36 => ?_)
      · exact absurd rfl h36
      · refine J_aload_n dX7_isSame_39 rfl rfl ?_
        refine J_callVr (As := []) dX7_isSame_40 ml_X7_138 cal_X6_rounds im_X6_rounds se_X6_rounds (hC1.1.at 0 rfl) rfl rfl rfl (Nat.le_of_ble_eq_true rfl) ⟨by decide, by decide⟩ ⟨by omega, by omega⟩ (k_rounds hst hC1) ?_
        refine J_aload_n dX7_isSame_43 rfl rfl ?_
        refine J_getf dX7_isSame_44 fl_X7_42 (hS1.W.1) rfl ?_
        refine J_icmp_ne (tgt := 70) dX7_isSame_47 rfl (fun h47 => ?_) (fun h47 => ?_)
        · exact absurd hS65.symm h47
        · refine J_aload_n dX7_isSame_50 rfl rfl ?_
          refine J_callVr (As := []) dX7_isSame_51 ml_X7_140 cal_X6_bouts im_X6_bouts se_X6_bouts (hC1.1.at 0 rfl) rfl rfl rfl (Nat.le_of_ble_eq_true rfl) ⟨by decide, by decide⟩ ⟨by omega, by omega⟩ (k_bouts hst hC1) ?_
          refine J_aload_n dX7_isSame_54 rfl rfl ?_
          refine J_alen (v := nI nb) dX7_isSame_55 a3 (by decide) rfl ?_
          refine J_icmp_ne (tgt := 70) dX7_isSame_56 rfl (fun h56 => ?_) (fun h56 => ?_)
          · exact absurd rfl h56
          · refine J_aload_n dX7_isSame_59 rfl rfl ?_
            refine J_callVr (As := []) dX7_isSame_60 ml_X7_143 cal_X6_openBouts im_X6_openBouts se_X6_openBouts (hC1.1.at 0 rfl) rfl rfl rfl (Nat.le_of_ble_eq_true rfl) ⟨by decide, by decide⟩ ⟨by omega, by omega⟩ (k_open hst hC1) ?_
            refine J_aload_n dX7_isSame_63 rfl rfl ?_
            refine J_callVr (As := []) dX7_isSame_64 ml_X7_69 cal_X7_open im_X7_open se_X7_open (hS1.W.1) rfl rfl rfl (Nat.le_of_ble_eq_true rfl) ⟨by decide, by decide⟩ ⟨by omega, by omega⟩ (c_X7_open hst hS1.W hT.n1 hT.n3) ?_
            refine J_icmp_eq (tgt := 72) dX7_isSame_67 rfl (fun h67 => ?_) (fun h67 => ?_)
            · refine J_aload_n dX7_isSame_72 rfl rfl ?_
              refine J_ltA (fun lt3 => ?_)
              refine J_callV (As := []) dX7_isSame_73 ml_X7_76 cal_X7_order im_X7_order se_X7_order (hS1.W.1) rfl rfl rfl (Nat.le_of_ble_eq_true rfl) ⟨by decide, by decide⟩ ⟨by omega, by omega⟩ (c_X7_order hst hS1.W hT.n1 hT.n3 hS60 (by omega)) (fun E A n _ hq => by obtain ⟨z, -⟩ := hq; cases z) (fun v9 A2 n2 hn2 hQ9 => ?_)
              obtain ⟨er9, en2, ⟨om, ls, o1, o2, o3, o4⟩, o5⟩ := hQ9
              cases er9
              subst en2
              have els := sR_srt hT.2.2.1 hT.bA (by omega) ⟨o2, o3⟩
              have hsrt : srt (f_R F (nwV G)) (nwV G) ls := by rw [els]; exact lsF_ok F (nwV G)
              have hst9 := ahd_sto (f_pts F) (rpts F (nwV G)) (f_str F)
              have hC2 := hC1.up (fun z hz => o5 z (by omega))
              have hS2 := hS1.up lt3 o5
              have a32 := (o5 u8 a2).trans a3
              refine J_astore_n (L' := [(3, _), (2, _), (0, _), (1, _)]) dX7_isSame_76 rfl (by decide) rfl ?_
              refine J_iconst (v := 0) dX7_isSame_77 (by decide) ?_
              refine J_istore (L' := [(4, _), (3, _), (2, _), (0, _), (1, _)]) dX7_isSame_78 (by decide) rfl ?_
              refine J_iconst (v := 0) dX7_isSame_80 (by decide) ?_
              refine J_istore (L' := [(5, _), (4, _), (3, _), (2, _), (0, _), (1, _)]) dX7_isSame_81 (by decide) rfl ?_
              have loop1 : ∀ i, i ≤ nwV G → ∀ (acc : Int32) (A1 : xx_H) (K J : Nat), K + 30 * (nwV G - i) ≤ 1700 → J + 180 * (nwV G - i) ≤ 35000 → (cI G b F nb r A1) → (sI G b h S A1) → (A1 u8 = some (.inl (3, nb, .inr (.inr (.inr (.inr f8)))))) → (A1 (n1 + 2) = some (.inl (0, nwV G, .inl om))) → (acc = bx_sum (fun p => ptS S (nI (ls.getD p 0))) i) → xx_J G l mX7_isSame 12 500 2000 40000 (sameQ) 83 [(5, .int (nI i)), (4, .int acc), (3, .ref (n1 + 2)), (2, .ref u8), (0, .ref h), (1, .ref b)] [] A1 (n1 + 3) K J := by
                refine xx_dn ?_ ?_
                · intro acc  A1 K J hK hJ hC3 hS3 tu tom hsum
                  have ei : (nI (nwV G)).toInt = nwV G := enw
                  refine J_iload dX7_isSame_83 rfl ?_
                  refine J_aload_n dX7_isSame_85 rfl rfl ?_
                  refine J_getf dX7_isSame_86 fl_X7_38 (hS3.W.1) rfl ?_
                  rw [hS60]
                  refine J_icmp_ge (tgt := 335) dX7_isSame_89 rfl (fun h89 => ?_) (fun h89 => ?_)
                  · refine J_iconst (v := 0) dX7_isSame_335 (by decide) ?_
                    refine J_istore (L' := [(5, _), (4, _), (3, _), (2, _), (0, _), (1, _)]) dX7_isSame_336 (by decide) rfl ?_
                    have loop2 : ∀ q, q ≤ nb → ∀  (A1 : xx_H) (K J : Nat), K + 10 * (nb - q) ≤ 1800 → J + 60 * (nb - q) ≤ 36000 → (cI G b F nb r A1) → (sI G b h S A1) → (A1 u8 = some (.inl (3, nb, .inr (.inr (.inr (.inr f8)))))) → xx_J G l mX7_isSame 12 500 2000 40000 (sameQ) 338 [(5, .int (nI q)), (4, .int acc), (2, .ref u8), (0, .ref h), (1, .ref b)] [] A1 (n1 + 3) K J := by
                      refine xx_dn ?_ ?_
                      · intro  A1 K J hK hJ hC6 hS6 tu6
                        have eq9 : (nI nb).toInt = nb := enb
                        refine J_iload dX7_isSame_338 rfl ?_
                        refine J_aload_n dX7_isSame_340 rfl rfl ?_
                        refine J_alen (v := nI nb) dX7_isSame_341 tu6 (by decide) rfl ?_
                        refine J_icmp_ge (tgt := 462) dX7_isSame_342 rfl (fun h342 => ?_) (fun h342 => ?_)
                        · refine J_aload_n dX7_isSame_462 rfl rfl ?_
                          refine J_getf dX7_isSame_463 fl_X7_42 (hS6.W.1) rfl ?_
                          rw [hS65]
                          refine J_if_le (tgt := 503) dX7_isSame_466 rfl (fun h466 => ?_) (fun h466 => ?_)
                          · refine J_aload_n dX7_isSame_503 rfl rfl ?_
                            refine J_callVr (As := []) dX7_isSame_504 ml_X7_203 cal_X6_meanPoints im_X6_meanPoints se_X6_meanPoints (hC6.1.at 0 rfl) rfl rfl rfl (Nat.le_of_ble_eq_true rfl) ⟨by decide, by decide⟩ ⟨by omega, by omega⟩ (k_mean hst hC6) ?_
                            refine J_aload_n dX7_isSame_507 rfl rfl ?_
                            refine J_getf dX7_isSame_508 fl_X7_38 (hS6.W.1) rfl ?_
                            rw [hS60]
                            refine J_if_ne (tgt := 518) dX7_isSame_511 rfl (fun h511 => ?_) (fun h511 => ?_)
                            · refine J_iload dX7_isSame_518 rfl ?_
                              refine J_i2d dX7_isSame_520 ?_
                              refine J_aload_n dX7_isSame_521 rfl rfl ?_
                              refine J_getf dX7_isSame_522 fl_X7_38 (hS6.W.1) rfl ?_
                              rw [hS60]
                              refine J_i2d dX7_isSame_525 ?_
                              refine J_ddiv dX7_isSame_526 (ddiv_nn _ (by omega) (by omega)) ?_
                              refine J_dcmp dX7_isSame_527 ?_
                              have emn : mnD F (nwV G) = FP.ddiv (FP.i2d acc) (FP.i2d (nI (nwV G))) := by
                                unfold mnD
                                rw [if_neg (by omega), hsum, sum_perm (g := fun w => ptS S (nI w)) o2]
                                rw [bx_c (f := fun w => F.2 2 (1 * 12 + w)) (g := fun w => ptS S (nI w)) (nwV G) (fun w hw => (hT.2.2.1.1 w hw).2.1)]
                              rw [emn, dcmp_self (ddiv_nn acc (by omega) (by omega))]
                              refine J_if_ne (tgt := 535) dX7_isSame_528 rfl (fun h528 => ?_) (fun h528 => ?_)
                              · exact absurd rfl h528
                              · refine J_iconst (v := 1) dX7_isSame_531 (by decide) ?_
                                refine J_goto (tgt := 536) dX7_isSame_532 rfl ?_
                                refine J_ireturn dX7_isSame_536 rfl rfl (by omega) (by omega) ?_
                                exact rfl
                            · exact absurd h511 (fun z => by rw [i_eq, enw, i_0] at z; omega)
                          · refine J_aload_n dX7_isSame_469 rfl rfl ?_
                            refine J_getf dX7_isSame_470 fl_X7_34 (hS6.W.1) rfl ?_
                            refine J_aload_n dX7_isSame_473 rfl rfl ?_
                            refine J_getf dX7_isSame_474 fl_X7_42 (hS6.W.1) rfl ?_
                            rw [hS65]
                            refine J_iconst (v := 1) dX7_isSame_477 (by decide) ?_
                            have hr0 : 0 < r := by rw [i_le, er, i_0] at h466; omega
                            have hrs9 : F.1 9 = S.2.1 8 (r - 1) := by
                              rcases hT.2.2.2.2.2.2.1 with ⟨y, -⟩ | ⟨-, y⟩
                              · omega
                              · exact y
                            refine J_isub dX7_isSame_478 ?_
                            rw [show nI r - 1 = nI (r - 1) by rw [show r = (r - 1) + 1 by omega, ← nI_1]; simp]
                            refine J_ialdN (r - 1) dX7_isSame_479 (hS6.W.2.2.2.2.2.2) rfl (by rw [hT.1.2.2.1]; omega) (by have := hT.n3; omega) ?_
                            rw [← hrs9]
                            refine J_if_lt (tgt := 503) dX7_isSame_480 rfl (fun h480 => ?_) (fun h480 => ?_)
                            · refine J_aload_n dX7_isSame_503 rfl rfl ?_
                              refine J_callVr (As := []) dX7_isSame_504 ml_X7_203 cal_X6_meanPoints im_X6_meanPoints se_X6_meanPoints (hC6.1.at 0 rfl) rfl rfl rfl (Nat.le_of_ble_eq_true rfl) ⟨by decide, by decide⟩ ⟨by omega, by omega⟩ (k_mean hst hC6) ?_
                              refine J_aload_n dX7_isSame_507 rfl rfl ?_
                              refine J_getf dX7_isSame_508 fl_X7_38 (hS6.W.1) rfl ?_
                              rw [hS60]
                              refine J_if_ne (tgt := 518) dX7_isSame_511 rfl (fun h511 => ?_) (fun h511 => ?_)
                              · refine J_iload dX7_isSame_518 rfl ?_
                                refine J_i2d dX7_isSame_520 ?_
                                refine J_aload_n dX7_isSame_521 rfl rfl ?_
                                refine J_getf dX7_isSame_522 fl_X7_38 (hS6.W.1) rfl ?_
                                rw [hS60]
                                refine J_i2d dX7_isSame_525 ?_
                                refine J_ddiv dX7_isSame_526 (ddiv_nn _ (by omega) (by omega)) ?_
                                refine J_dcmp dX7_isSame_527 ?_
                                have emn : mnD F (nwV G) = FP.ddiv (FP.i2d acc) (FP.i2d (nI (nwV G))) := by
                                  unfold mnD
                                  rw [if_neg (by omega), hsum, sum_perm (g := fun w => ptS S (nI w)) o2]
                                  rw [bx_c (f := fun w => F.2 2 (1 * 12 + w)) (g := fun w => ptS S (nI w)) (nwV G) (fun w hw => (hT.2.2.1.1 w hw).2.1)]
                                rw [emn, dcmp_self (ddiv_nn acc (by omega) (by omega))]
                                refine J_if_ne (tgt := 535) dX7_isSame_528 rfl (fun h528 => ?_) (fun h528 => ?_)
                                · exact absurd rfl h528
                                · refine J_iconst (v := 1) dX7_isSame_531 (by decide) ?_
                                  refine J_goto (tgt := 536) dX7_isSame_532 rfl ?_
                                  refine J_ireturn dX7_isSame_536 rfl rfl (by omega) (by omega) ?_
                                  exact rfl
                              · exact absurd h511 (fun z => by rw [i_eq, enw, i_0] at z; omega)
                            · refine J_aload_n dX7_isSame_483 rfl rfl ?_
                              refine J_callVz (As := []) dX7_isSame_484 ml_X7_200 cal_X6_restingOne im_X6_restingOne se_X6_restingOne (hC6.1.at 0 rfl) rfl rfl rfl (Nat.le_of_ble_eq_true rfl) ⟨by decide, by decide⟩ ⟨by omega, by omega⟩ (c_X6_restingOne hst hC6.1 hC6.2.1) (lw_q hC6 (show aRst F = (0, F.1 9) from if_neg (fun z => by rw [z] at h480; exact h480 (by decide)))) (fun A701 hQ701 => ?_)
                              have hC701 := hQ701.1
                              have hS701 := hS6.cl hQ701.2
                              have tu701 := (hQ701.2 _ (Or.inr (by omega))).trans tu6
                              refine J_aload_n dX7_isSame_487 rfl rfl ?_
                              refine J_getf dX7_isSame_488 fl_X7_34 (hS701.W.1) rfl ?_
                              refine J_aload_n dX7_isSame_491 rfl rfl ?_
                              refine J_getf dX7_isSame_492 fl_X7_42 (hS701.W.1) rfl ?_
                              rw [hS65]
                              refine J_iconst (v := 1) dX7_isSame_495 (by decide) ?_
                              refine J_isub dX7_isSame_496 ?_
                              rw [show nI r - 1 = nI (r - 1) by rw [show r = (r - 1) + 1 by omega, ← nI_1]; simp]
                              refine J_ialdN (r - 1) dX7_isSame_497 (hS701.W.2.2.2.2.2.2) rfl (by rw [hT.1.2.2.1]; omega) (by have := hT.n3; omega) ?_
                              rw [← hrs9]
                              refine J_icmp_eq (tgt := 503) dX7_isSame_498 rfl (fun h498 => ?_) (fun h498 => ?_)
                              · refine J_aload_n dX7_isSame_503 rfl rfl ?_
                                refine J_callVr (As := []) dX7_isSame_504 ml_X7_203 cal_X6_meanPoints im_X6_meanPoints se_X6_meanPoints (hC701.1.at 0 rfl) rfl rfl rfl (Nat.le_of_ble_eq_true rfl) ⟨by decide, by decide⟩ ⟨by omega, by omega⟩ (k_mean hst hC701) ?_
                                refine J_aload_n dX7_isSame_507 rfl rfl ?_
                                refine J_getf dX7_isSame_508 fl_X7_38 (hS701.W.1) rfl ?_
                                rw [hS60]
                                refine J_if_ne (tgt := 518) dX7_isSame_511 rfl (fun h511 => ?_) (fun h511 => ?_)
                                · refine J_iload dX7_isSame_518 rfl ?_
                                  refine J_i2d dX7_isSame_520 ?_
                                  refine J_aload_n dX7_isSame_521 rfl rfl ?_
                                  refine J_getf dX7_isSame_522 fl_X7_38 (hS701.W.1) rfl ?_
                                  rw [hS60]
                                  refine J_i2d dX7_isSame_525 ?_
                                  refine J_ddiv dX7_isSame_526 (ddiv_nn _ (by omega) (by omega)) ?_
                                  refine J_dcmp dX7_isSame_527 ?_
                                  have emn : mnD F (nwV G) = FP.ddiv (FP.i2d acc) (FP.i2d (nI (nwV G))) := by
                                    unfold mnD
                                    rw [if_neg (by omega), hsum, sum_perm (g := fun w => ptS S (nI w)) o2]
                                    rw [bx_c (f := fun w => F.2 2 (1 * 12 + w)) (g := fun w => ptS S (nI w)) (nwV G) (fun w hw => (hT.2.2.1.1 w hw).2.1)]
                                  rw [emn, dcmp_self (ddiv_nn acc (by omega) (by omega))]
                                  refine J_if_ne (tgt := 535) dX7_isSame_528 rfl (fun h528 => ?_) (fun h528 => ?_)
                                  · exact absurd rfl h528
                                  · refine J_iconst (v := 1) dX7_isSame_531 (by decide) ?_
                                    refine J_goto (tgt := 536) dX7_isSame_532 rfl ?_
                                    refine J_ireturn dX7_isSame_536 rfl rfl (by omega) (by omega) ?_
                                    exact rfl
                                · exact absurd h511 (fun z => by rw [i_eq, enw, i_0] at z; omega)
                              · exact absurd rfl h498
                        · first | (exfalso; simp only [i_lt, i_le, i_eq, i_0, i_1, i_2, i_3, i_4, i_5, i_6, i_8, i_9, i_10, i_12, i_16, i_20, i_m1] at h342; omega) | (exfalso; simp only [s_up, a_up, va_up, i_lt, i_le, i_eq, i_0, i_1, i_2, i_3, i_4, i_5, i_6, i_8, i_9, i_10, i_12, i_16, i_20, i_m1, ↓reduceIte, Nat.reduceEqDiff] at h342; omega)
                      · intro q hiq ih  A1 K J hK hJ hC6 hS6 tu6
                        have eq9 : (nI q).toInt = q := i_n (by omega)
                        obtain ⟨a, c, h4, ha, h5, hc, hac⟩ := hT.bt2 hiq
                        have ff := a4 q hiq
                        rw [lt2 q hiq] at ff
                        obtain ⟨i0, hi0⟩ : ∃ i0, i0 = S.2.2 1 - nb + q := ⟨_, rfl⟩
                        obtain ⟨f1, f2, f3⟩ := hT.2.2.2.1.2.2.2 q hiq
                        rw [← hi0] at ff f1 f2 f3
                        have hiN : i0 < S.2.2 1 := by have := hT.2.2.2.1.1; omega
                        obtain ⟨p1, p2⟩ := an_opp hT hiq
                        have erl := hT.rule hS6.2.2.2 hiq h4 h5 ha hc
                        rw [← hi0] at erl
                        refine J_iload dX7_isSame_338 rfl ?_
                        refine J_aload_n dX7_isSame_340 rfl rfl ?_
                        refine J_alen (v := nI nb) dX7_isSame_341 tu6 (by decide) rfl ?_
                        refine J_icmp_ge (tgt := 462) dX7_isSame_342 rfl (fun h342 => ?_) (fun h342 => ?_)
                        · first | (exfalso; simp only [i_lt, i_le, i_eq, i_0, i_1, i_2, i_3, i_4, i_5, i_6, i_8, i_9, i_10, i_12, i_16, i_20, i_m1] at h342; omega) | (exfalso; simp only [s_up, a_up, va_up, i_lt, i_le, i_eq, i_0, i_1, i_2, i_3, i_4, i_5, i_6, i_8, i_9, i_10, i_12, i_16, i_20, i_m1, ↓reduceIte, Nat.reduceEqDiff] at h342; omega)
                        · refine J_aload_n dX7_isSame_345 rfl rfl ?_
                          refine J_iload dX7_isSame_346 rfl ?_
                          refine J_callVz (As := [_]) dX7_isSame_348 ml_X7_185 cal_X6_redOf im_X6_redOf se_X6_redOf (hC6.1.at 0 rfl) rfl rfl rfl (Nat.le_of_ble_eq_true rfl) ⟨by decide, by decide⟩ ⟨by omega, by omega⟩ (c_X6_redOf hst hC6.1 hC6.2.1 _) (lw_q hC6 (an_red hT hiq)) (fun A301 hQ301 => ?_)
                          have hC301 := hQ301.1
                          have hS301 := hS6.cl hQ301.2
                          have tu301 := (hQ301.2 _ (Or.inr (by omega))).trans tu6
                          refine J_aload_n dX7_isSame_351 rfl rfl ?_
                          refine J_iload dX7_isSame_352 rfl ?_
                          refine J_aaldR q dX7_isSame_354 (Or.inl rfl) tu301 rfl hiq (by omega) ff ?_
                          refine J_iconst (v := 1) dX7_isSame_355 (by decide) ?_
                          refine J_ialdN 1 dX7_isSame_356 (hS301.W.2.2.2.2.2.1 i0 hiN) rfl (by decide) (by decide) ?_
                          rw [show S.2.1 (10 + i0) 1 = F.2 4 q from f1.symm]
                          refine J_icmp_ne (tgt := 454) dX7_isSame_357 rfl (fun h357 => ?_) (fun h357 => ?_)
                          · exact absurd rfl h357
                          · refine J_aload_n dX7_isSame_360 rfl rfl ?_
                            refine J_iload dX7_isSame_361 rfl ?_
                            refine J_callVz (As := [_]) dX7_isSame_363 ml_X7_188 cal_X6_blueOf im_X6_blueOf se_X6_blueOf (hC301.1.at 0 rfl) rfl rfl rfl (Nat.le_of_ble_eq_true rfl) ⟨by decide, by decide⟩ ⟨by omega, by omega⟩ (c_X6_blueOf hst hC301.1 hC301.2.1 _) (lw_q hC301 (an_blu hT hiq)) (fun A302 hQ302 => ?_)
                            have hC302 := hQ302.1
                            have hS302 := hS301.cl hQ302.2
                            have tu302 := (hQ302.2 _ (Or.inr (by omega))).trans tu301
                            refine J_aload_n dX7_isSame_366 rfl rfl ?_
                            refine J_iload dX7_isSame_367 rfl ?_
                            refine J_aaldR q dX7_isSame_369 (Or.inl rfl) tu302 rfl hiq (by omega) ff ?_
                            refine J_iconst (v := 2) dX7_isSame_370 (by decide) ?_
                            refine J_ialdN 2 dX7_isSame_371 (hS302.W.2.2.2.2.2.1 i0 hiN) rfl (by decide) (by decide) ?_
                            rw [show S.2.1 (10 + i0) 2 = F.2 5 q from f2.symm]
                            refine J_icmp_ne (tgt := 454) dX7_isSame_372 rfl (fun h372 => ?_) (fun h372 => ?_)
                            · exact absurd rfl h372
                            · refine J_aload_n dX7_isSame_375 rfl rfl ?_
                              refine J_iload dX7_isSame_376 rfl ?_
                              refine J_callVz (As := [_]) dX7_isSame_378 ml_X7_191 cal_X6_ruledOutcome im_X6_ruledOutcome se_X6_ruledOutcome (hC302.1.at 0 rfl) rfl rfl rfl (Nat.le_of_ble_eq_true rfl) ⟨by decide, by decide⟩ ⟨by omega, by omega⟩ (c_X6_ruledOutcome hst hC302.1 hC302.2.1 _ ruG_c) (lw_q hC302 (an_rul hT hiq h4 h5 ha hc)) (fun A303 hQ303 => ?_)
                              have hC303 := hQ303.1
                              have hS303 := hS302.cl hQ303.2
                              have tu303 := (hQ303.2 _ (Or.inr (by omega))).trans tu302
                              refine J_aload_n dX7_isSame_381 rfl rfl ?_
                              refine J_aload_n dX7_isSame_382 rfl rfl ?_
                              refine J_iload dX7_isSame_383 rfl ?_
                              refine J_aaldR q dX7_isSame_385 (Or.inl rfl) tu303 rfl hiq (by omega) ff ?_
                              refine J_callVr (As := [_]) dX7_isSame_386 ml_X7_106 cal_X7_ruled im_X7_ruled se_X7_ruled (hS303.W.1) rfl rfl rfl (Nat.le_of_ble_eq_true rfl) ⟨by decide, by decide⟩ ⟨by omega, by omega⟩ (c_X7_ruled hst hS303.W hT.n1 hT.n3 hS303.R (by have := hS303.2.2.1.1; omega) (hS303.W.2.2.2.2.2.1 i0 hiN) (hT.b12 i0 hiN)) ?_
                              refine J_icmp_ne (tgt := 454) dX7_isSame_389 rfl (fun h389 => ?_) (fun h389 => ?_)
                              · exact absurd erl.symm h389
                              · refine J_aload_n dX7_isSame_392 rfl rfl ?_
                                refine J_iload dX7_isSame_393 rfl ?_
                                refine J_aaldR q dX7_isSame_395 (Or.inl rfl) tu303 rfl hiq (by omega) ff ?_
                                refine J_iconst (v := 3) dX7_isSame_396 (by decide) ?_
                                refine J_ialdN 3 dX7_isSame_397 (hS303.W.2.2.2.2.2.1 i0 hiN) rfl (by decide) (by decide) ?_
                                rw [show S.2.1 (10 + i0) 3 = F.2 6 q from f3.symm]
                                refine J_if_lt (tgt := 416) dX7_isSame_398 rfl (fun h398 => ?_) (fun h398 => ?_)
                                · refine J_aload_n dX7_isSame_416 rfl rfl ?_
                                  refine J_aload_n dX7_isSame_417 rfl rfl ?_
                                  refine J_iload dX7_isSame_418 rfl ?_
                                  refine J_aaldR q dX7_isSame_420 (Or.inl rfl) tu303 rfl hiq (by omega) ff ?_
                                  refine J_iconst (v := 1) dX7_isSame_421 (by decide) ?_
                                  refine J_ialdN 1 dX7_isSame_422 (hS303.W.2.2.2.2.2.1 i0 hiN) rfl (by decide) (by decide) ?_
                                  rw [show S.2.1 (10 + i0) 1 = F.2 4 q from f1.symm]
                                  refine J_callVz (As := [_]) dX7_isSame_423 ml_X7_197 cal_X6_opponentOf im_X6_opponentOf se_X6_opponentOf (hC303.1.at 0 rfl) rfl rfl rfl (Nat.le_of_ble_eq_true rfl) ⟨by decide, by decide⟩ ⟨by omega, by omega⟩ (c_X6_opponentOf hst hC303.1 hC303.2.1 _) (lw_q hC303 (p1)) (fun A304 hQ304 => ?_)
                                  have hC304 := hQ304.1
                                  have hS304 := hS303.cl hQ304.2
                                  have tu304 := (hQ304.2 _ (Or.inr (by omega))).trans tu303
                                  refine J_aload_n dX7_isSame_426 rfl rfl ?_
                                  refine J_iload dX7_isSame_427 rfl ?_
                                  refine J_aaldR q dX7_isSame_429 (Or.inl rfl) tu304 rfl hiq (by omega) ff ?_
                                  refine J_iconst (v := 2) dX7_isSame_430 (by decide) ?_
                                  refine J_ialdN 2 dX7_isSame_431 (hS304.W.2.2.2.2.2.1 i0 hiN) rfl (by decide) (by decide) ?_
                                  rw [show S.2.1 (10 + i0) 2 = F.2 5 q from f2.symm]
                                  refine J_icmp_ne (tgt := 454) dX7_isSame_432 rfl (fun h432 => ?_) (fun h432 => ?_)
                                  · exact absurd rfl h432
                                  · refine J_aload_n dX7_isSame_435 rfl rfl ?_
                                    refine J_aload_n dX7_isSame_436 rfl rfl ?_
                                    refine J_iload dX7_isSame_437 rfl ?_
                                    refine J_aaldR q dX7_isSame_439 (Or.inl rfl) tu304 rfl hiq (by omega) ff ?_
                                    refine J_iconst (v := 2) dX7_isSame_440 (by decide) ?_
                                    refine J_ialdN 2 dX7_isSame_441 (hS304.W.2.2.2.2.2.1 i0 hiN) rfl (by decide) (by decide) ?_
                                    rw [show S.2.1 (10 + i0) 2 = F.2 5 q from f2.symm]
                                    refine J_callVz (As := [_]) dX7_isSame_442 ml_X7_197 cal_X6_opponentOf im_X6_opponentOf se_X6_opponentOf (hC304.1.at 0 rfl) rfl rfl rfl (Nat.le_of_ble_eq_true rfl) ⟨by decide, by decide⟩ ⟨by omega, by omega⟩ (c_X6_opponentOf hst hC304.1 hC304.2.1 _) (lw_q hC304 (p2)) (fun A305 hQ305 => ?_)
                                    have hC305 := hQ305.1
                                    have hS305 := hS304.cl hQ305.2
                                    have tu305 := (hQ305.2 _ (Or.inr (by omega))).trans tu304
                                    refine J_aload_n dX7_isSame_445 rfl rfl ?_
                                    refine J_iload dX7_isSame_446 rfl ?_
                                    refine J_aaldR q dX7_isSame_448 (Or.inl rfl) tu305 rfl hiq (by omega) ff ?_
                                    refine J_iconst (v := 1) dX7_isSame_449 (by decide) ?_
                                    refine J_ialdN 1 dX7_isSame_450 (hS305.W.2.2.2.2.2.1 i0 hiN) rfl (by decide) (by decide) ?_
                                    rw [show S.2.1 (10 + i0) 1 = F.2 4 q from f1.symm]
                                    refine J_icmp_eq (tgt := 456) dX7_isSame_451 rfl (fun h451 => ?_) (fun h451 => ?_)
                                    · refine J_iinc (v := _ + 1) (L' := [(5, _), (4, _), (2, _), (0, _), (1, _)]) dX7_isSame_456 rfl rfl (by decide) rfl ?_
                                      refine J_goto (tgt := 338) dX7_isSame_459 rfl ?_
                                      rw [nI_1]
                                      refine xx_J.pick [0, 1, 2, 3, 4] rfl ?_
                                      exact ih _ _ _ (by omega) (by omega) hC305 hS305 tu305
                                    · exact absurd rfl h451
                                · refine J_aload_n dX7_isSame_401 rfl rfl ?_
                                  refine J_iload dX7_isSame_402 rfl ?_
                                  refine J_callVz (As := [_]) dX7_isSame_404 ml_X7_194 cal_X6_outcomeOf im_X6_outcomeOf se_X6_outcomeOf (hC303.1.at 0 rfl) rfl rfl rfl (Nat.le_of_ble_eq_true rfl) ⟨by decide, by decide⟩ ⟨by omega, by omega⟩ (c_X6_outcomeOf hst hC303.1 hC303.2.1 _) (lw_q hC303 (an_out hT hiq (fun z => by rw [z] at h398; exact h398 (by decide)))) (fun A306 hQ306 => ?_)
                                  have hC306 := hQ306.1
                                  have hS306 := hS303.cl hQ306.2
                                  have tu306 := (hQ306.2 _ (Or.inr (by omega))).trans tu303
                                  refine J_aload_n dX7_isSame_407 rfl rfl ?_
                                  refine J_iload dX7_isSame_408 rfl ?_
                                  refine J_aaldR q dX7_isSame_410 (Or.inl rfl) tu306 rfl hiq (by omega) ff ?_
                                  refine J_iconst (v := 3) dX7_isSame_411 (by decide) ?_
                                  refine J_ialdN 3 dX7_isSame_412 (hS306.W.2.2.2.2.2.1 i0 hiN) rfl (by decide) (by decide) ?_
                                  rw [show S.2.1 (10 + i0) 3 = F.2 6 q from f3.symm]
                                  refine J_icmp_ne (tgt := 454) dX7_isSame_413 rfl (fun h413 => ?_) (fun h413 => ?_)
                                  · exact absurd rfl h413
                                  · refine J_aload_n dX7_isSame_416 rfl rfl ?_
                                    refine J_aload_n dX7_isSame_417 rfl rfl ?_
                                    refine J_iload dX7_isSame_418 rfl ?_
                                    refine J_aaldR q dX7_isSame_420 (Or.inl rfl) tu306 rfl hiq (by omega) ff ?_
                                    refine J_iconst (v := 1) dX7_isSame_421 (by decide) ?_
                                    refine J_ialdN 1 dX7_isSame_422 (hS306.W.2.2.2.2.2.1 i0 hiN) rfl (by decide) (by decide) ?_
                                    rw [show S.2.1 (10 + i0) 1 = F.2 4 q from f1.symm]
                                    refine J_callVz (As := [_]) dX7_isSame_423 ml_X7_197 cal_X6_opponentOf im_X6_opponentOf se_X6_opponentOf (hC306.1.at 0 rfl) rfl rfl rfl (Nat.le_of_ble_eq_true rfl) ⟨by decide, by decide⟩ ⟨by omega, by omega⟩ (c_X6_opponentOf hst hC306.1 hC306.2.1 _) (lw_q hC306 (p1)) (fun A307 hQ307 => ?_)
                                    have hC307 := hQ307.1
                                    have hS307 := hS306.cl hQ307.2
                                    have tu307 := (hQ307.2 _ (Or.inr (by omega))).trans tu306
                                    refine J_aload_n dX7_isSame_426 rfl rfl ?_
                                    refine J_iload dX7_isSame_427 rfl ?_
                                    refine J_aaldR q dX7_isSame_429 (Or.inl rfl) tu307 rfl hiq (by omega) ff ?_
                                    refine J_iconst (v := 2) dX7_isSame_430 (by decide) ?_
                                    refine J_ialdN 2 dX7_isSame_431 (hS307.W.2.2.2.2.2.1 i0 hiN) rfl (by decide) (by decide) ?_
                                    rw [show S.2.1 (10 + i0) 2 = F.2 5 q from f2.symm]
                                    refine J_icmp_ne (tgt := 454) dX7_isSame_432 rfl (fun h432 => ?_) (fun h432 => ?_)
                                    · exact absurd rfl h432
                                    · refine J_aload_n dX7_isSame_435 rfl rfl ?_
                                      refine J_aload_n dX7_isSame_436 rfl rfl ?_
                                      refine J_iload dX7_isSame_437 rfl ?_
                                      refine J_aaldR q dX7_isSame_439 (Or.inl rfl) tu307 rfl hiq (by omega) ff ?_
                                      refine J_iconst (v := 2) dX7_isSame_440 (by decide) ?_
                                      refine J_ialdN 2 dX7_isSame_441 (hS307.W.2.2.2.2.2.1 i0 hiN) rfl (by decide) (by decide) ?_
                                      rw [show S.2.1 (10 + i0) 2 = F.2 5 q from f2.symm]
                                      refine J_callVz (As := [_]) dX7_isSame_442 ml_X7_197 cal_X6_opponentOf im_X6_opponentOf se_X6_opponentOf (hC307.1.at 0 rfl) rfl rfl rfl (Nat.le_of_ble_eq_true rfl) ⟨by decide, by decide⟩ ⟨by omega, by omega⟩ (c_X6_opponentOf hst hC307.1 hC307.2.1 _) (lw_q hC307 (p2)) (fun A308 hQ308 => ?_)
                                      have hC308 := hQ308.1
                                      have hS308 := hS307.cl hQ308.2
                                      have tu308 := (hQ308.2 _ (Or.inr (by omega))).trans tu307
                                      refine J_aload_n dX7_isSame_445 rfl rfl ?_
                                      refine J_iload dX7_isSame_446 rfl ?_
                                      refine J_aaldR q dX7_isSame_448 (Or.inl rfl) tu308 rfl hiq (by omega) ff ?_
                                      refine J_iconst (v := 1) dX7_isSame_449 (by decide) ?_
                                      refine J_ialdN 1 dX7_isSame_450 (hS308.W.2.2.2.2.2.1 i0 hiN) rfl (by decide) (by decide) ?_
                                      rw [show S.2.1 (10 + i0) 1 = F.2 4 q from f1.symm]
                                      refine J_icmp_eq (tgt := 456) dX7_isSame_451 rfl (fun h451 => ?_) (fun h451 => ?_)
                                      · refine J_iinc (v := _ + 1) (L' := [(5, _), (4, _), (2, _), (0, _), (1, _)]) dX7_isSame_456 rfl rfl (by decide) rfl ?_
                                        refine J_goto (tgt := 338) dX7_isSame_459 rfl ?_
                                        rw [nI_1]
                                        refine xx_J.pick [0, 1, 2, 3, 4] rfl ?_
                                        exact ih _ _ _ (by omega) (by omega) hC308 hS308 tu308
                                      · exact absurd rfl h451
                    refine xx_J.pick [0, 1, 3, 4, 5] rfl ?_
                    exact loop2 0 (Nat.zero_le _) _ _ _ (by omega) (by omega) hC3 hS3 tu
                  · first | (exfalso; simp only [i_lt, i_le, i_eq, i_0, i_1, i_2, i_3, i_4, i_5, i_6, i_8, i_9, i_10, i_12, i_16, i_20, i_m1] at h89; omega) | (exfalso; simp only [s_up, a_up, va_up, i_lt, i_le, i_eq, i_0, i_1, i_2, i_3, i_4, i_5, i_6, i_8, i_9, i_10, i_12, i_16, i_20, i_m1, ↓reduceIte, Nat.reduceEqDiff] at h89; omega)
                · intro i hii ih acc  A1 K J hK hJ hC3 hS3 tu tom hsum
                  have ei : (nI i).toInt = i := i_n (by omega)
                  refine J_iload dX7_isSame_83 rfl ?_
                  refine J_aload_n dX7_isSame_85 rfl rfl ?_
                  refine J_getf dX7_isSame_86 fl_X7_38 (hS3.W.1) rfl ?_
                  rw [hS60]
                  refine J_icmp_ge (tgt := 335) dX7_isSame_89 rfl (fun h89 => ?_) (fun h89 => ?_)
                  · first | (exfalso; simp only [i_lt, i_le, i_eq, i_0, i_1, i_2, i_3, i_4, i_5, i_6, i_8, i_9, i_10, i_12, i_16, i_20, i_m1] at h89; omega) | (exfalso; simp only [s_up, a_up, va_up, i_lt, i_le, i_eq, i_0, i_1, i_2, i_3, i_4, i_5, i_6, i_8, i_9, i_10, i_12, i_16, i_20, i_m1, ↓reduceIte, Nat.reduceEqDiff] at h89; omega)
                  · refine J_aload_n dX7_isSame_92 rfl rfl ?_
                    refine J_iload dX7_isSame_93 rfl ?_
                    refine J_ialdN i dX7_isSame_95 tom rfl hii (by omega) ?_
                    have hw : ls.getD i 0 < nwV G := List.mem_range.mp (o2.mem_iff.mp (by rw [getD_at (by rw [o2.length_eq, List.length_range]; exact hii)]; exact List.getElem_mem _))
                    obtain ⟨w, hwe⟩ : ∃ w, w = ls.getD i 0 := ⟨_, rfl⟩
                    rw [o4 i hii, ← hwe]
                    rw [← hwe] at hw
                    obtain ⟨h0, h1, h2, h3, h4, h5, h6, h7, h9⟩ := hT.2.2.1.1 w hw
                    have hm := om_rp hT.2.2.1 hT.bA (by omega) hw
                    refine J_istore (L' := [(6, _), (5, _), (4, _), (3, _), (2, _), (0, _), (1, _)]) dX7_isSame_96 (by decide) rfl ?_
                    refine J_aload_n dX7_isSame_98 rfl rfl ?_
                    refine J_iload dX7_isSame_99 rfl ?_
                    refine J_callVr (As := [_]) dX7_isSame_101 ml_X7_57 cal_X7_points im_X7_points se_X7_points (hS3.W.1) rfl rfl rfl (Nat.le_of_ble_eq_true rfl) ⟨by decide, by decide⟩ ⟨by omega, by omega⟩ (c_X7_points hst hS3.W hT.n1 hT.n3 _) ?_
                    refine J_istore (L' := [(7, _), (6, _), (5, _), (4, _), (3, _), (2, _), (0, _), (1, _)]) dX7_isSame_104 (by decide) rfl ?_
                    refine J_iload dX7_isSame_106 rfl ?_
                    refine J_iload dX7_isSame_108 rfl ?_
                    refine J_iadd dX7_isSame_110 ?_
                    refine J_istore (L' := [(4, _), (7, _), (6, _), (5, _), (3, _), (2, _), (0, _), (1, _)]) dX7_isSame_111 (by decide) rfl ?_
                    refine J_aload_n dX7_isSame_113 rfl rfl ?_
                    refine J_iload dX7_isSame_114 rfl ?_
                    refine J_callVz (As := [_]) dX7_isSame_116 ml_X7_146 cal_X6_wrestlerAt im_X6_wrestlerAt se_X6_wrestlerAt (hC3.1.at 0 rfl) rfl rfl rfl (Nat.le_of_ble_eq_true rfl) ⟨by decide, by decide⟩ ⟨by omega, by omega⟩ (c_X6_wrestlerAt hst hC3.1 hC3.2.1 _) (lw_q hC3 (an_at hT hii)) (fun A201 hQ201 => ?_)
                    have hC201 := hQ201.1
                    have hS201 := hS3.cl hQ201.2
                    have tom201 := (hQ201.2 _ (Or.inr (by omega))).trans tom
                    have tu201 := (hQ201.2 _ (Or.inr (by omega))).trans tu
                    refine J_iload dX7_isSame_119 rfl ?_
                    refine J_icmp_ne (tgt := 286) dX7_isSame_121 rfl (fun h121 => ?_) (fun h121 => ?_)
                    · exact absurd (by rw [hwe, els]) h121
                    · refine J_aload_n dX7_isSame_124 rfl rfl ?_
                      refine J_iload dX7_isSame_125 rfl ?_
                      refine J_callVz (As := [_]) dX7_isSame_127 ml_X7_149 cal_X6_rankOf im_X6_rankOf se_X6_rankOf (hC201.1.at 0 rfl) rfl rfl rfl (Nat.le_of_ble_eq_true rfl) ⟨by decide, by decide⟩ ⟨by omega, by omega⟩ (c_X6_rankOf hst hC201.1 hC201.2.1 _) (lw_q hC201 (an_rnk hT hw)) (fun A202 hQ202 => ?_)
                      have hC202 := hQ202.1
                      have hS202 := hS201.cl hQ202.2
                      have tom202 := (hQ202.2 _ (Or.inr (by omega))).trans tom201
                      have tu202 := (hQ202.2 _ (Or.inr (by omega))).trans tu201
                      refine J_iload dX7_isSame_130 rfl ?_
                      refine J_icmp_ne (tgt := 286) dX7_isSame_132 rfl (fun h132 => ?_) (fun h132 => ?_)
                      · exact absurd (by rw [hwe, hsrt.rank hst9 hii]) h132
                      · refine J_aload_n dX7_isSame_135 rfl rfl ?_
                        refine J_iload dX7_isSame_136 rfl ?_
                        refine J_callVz (As := [_]) dX7_isSame_138 ml_X7_152 cal_X6_strengthOf im_X6_strengthOf se_X6_strengthOf (hC202.1.at 0 rfl) rfl rfl rfl (Nat.le_of_ble_eq_true rfl) ⟨by decide, by decide⟩ ⟨by omega, by omega⟩ (c_X6_strengthOf hst hC202.1 hC202.2.1 _) (lw_q hC202 (an_of hT hw)) (fun A203 hQ203 => ?_)
                        have hC203 := hQ203.1
                        have hS203 := hS202.cl hQ203.2
                        have tom203 := (hQ203.2 _ (Or.inr (by omega))).trans tom202
                        have tu203 := (hQ203.2 _ (Or.inr (by omega))).trans tu202
                        refine J_aload_n dX7_isSame_141 rfl rfl ?_
                        refine J_getf dX7_isSame_142 fl_X7_7 (hS203.W.1) rfl ?_
                        refine J_iload dX7_isSame_145 rfl ?_
                        refine J_ialdN w dX7_isSame_147 (hS203.W.2.1) rfl (by omega) (by decide) ?_
                        refine J_icmp_ne (tgt := 286) dX7_isSame_148 rfl (fun h148 => ?_) (fun h148 => ?_)
                        · exact absurd h0 h148
                        · refine J_aload_n dX7_isSame_151 rfl rfl ?_
                          refine J_iload dX7_isSame_152 rfl ?_
                          refine J_callVz (As := [_]) dX7_isSame_154 ml_X7_155 cal_X6_pointsOf im_X6_pointsOf se_X6_pointsOf (hC203.1.at 0 rfl) rfl rfl rfl (Nat.le_of_ble_eq_true rfl) ⟨by decide, by decide⟩ ⟨by omega, by omega⟩ (c_X6_pointsOf hst hC203.1 hC203.2.1 _) (lw_q hC203 (an_of hT hw)) (fun A204 hQ204 => ?_)
                          have hC204 := hQ204.1
                          have hS204 := hS203.cl hQ204.2
                          have tom204 := (hQ204.2 _ (Or.inr (by omega))).trans tom203
                          have tu204 := (hQ204.2 _ (Or.inr (by omega))).trans tu203
                          refine J_iload dX7_isSame_157 rfl ?_
                          refine J_icmp_ne (tgt := 286) dX7_isSame_159 rfl (fun h159 => ?_) (fun h159 => ?_)
                          · exact absurd h1 h159
                          · refine J_aload_n dX7_isSame_162 rfl rfl ?_
                            refine J_iload dX7_isSame_163 rfl ?_
                            refine J_callVz (As := [_]) dX7_isSame_165 ml_X7_158 cal_X6_winsOf im_X6_winsOf se_X6_winsOf (hC204.1.at 0 rfl) rfl rfl rfl (Nat.le_of_ble_eq_true rfl) ⟨by decide, by decide⟩ ⟨by omega, by omega⟩ (c_X6_winsOf hst hC204.1 hC204.2.1 _) (lw_q hC204 (an_of hT hw)) (fun A205 hQ205 => ?_)
                            have hC205 := hQ205.1
                            have hS205 := hS204.cl hQ205.2
                            have tom205 := (hQ205.2 _ (Or.inr (by omega))).trans tom204
                            have tu205 := (hQ205.2 _ (Or.inr (by omega))).trans tu204
                            refine J_aload_n dX7_isSame_168 rfl rfl ?_
                            refine J_iload dX7_isSame_169 rfl ?_
                            refine J_iconst (v := 0) dX7_isSame_171 (by decide) ?_
                            refine J_callVr (As := [_, _]) dX7_isSame_172 ml_X7_49 cal_X7_many im_X7_many se_X7_many (hS205.W.1) rfl rfl rfl (Nat.le_of_ble_eq_true rfl) ⟨by decide, by decide⟩ ⟨by omega, by omega⟩ (c_X7_many hst hS205.W hT.n1 hT.n3 _ _) ?_
                            refine J_icmp_ne (tgt := 286) dX7_isSame_175 rfl (fun h175 => ?_) (fun h175 => ?_)
                            · exact absurd h2 h175
                            · refine J_aload_n dX7_isSame_178 rfl rfl ?_
                              refine J_iload dX7_isSame_179 rfl ?_
                              refine J_callVz (As := [_]) dX7_isSame_181 ml_X7_161 cal_X6_drawsOf im_X6_drawsOf se_X6_drawsOf (hC205.1.at 0 rfl) rfl rfl rfl (Nat.le_of_ble_eq_true rfl) ⟨by decide, by decide⟩ ⟨by omega, by omega⟩ (c_X6_drawsOf hst hC205.1 hC205.2.1 _) (lw_q hC205 (an_of hT hw)) (fun A206 hQ206 => ?_)
                              have hC206 := hQ206.1
                              have hS206 := hS205.cl hQ206.2
                              have tom206 := (hQ206.2 _ (Or.inr (by omega))).trans tom205
                              have tu206 := (hQ206.2 _ (Or.inr (by omega))).trans tu205
                              refine J_aload_n dX7_isSame_184 rfl rfl ?_
                              refine J_iload dX7_isSame_185 rfl ?_
                              refine J_iconst (v := 1) dX7_isSame_187 (by decide) ?_
                              refine J_callVr (As := [_, _]) dX7_isSame_188 ml_X7_49 cal_X7_many im_X7_many se_X7_many (hS206.W.1) rfl rfl rfl (Nat.le_of_ble_eq_true rfl) ⟨by decide, by decide⟩ ⟨by omega, by omega⟩ (c_X7_many hst hS206.W hT.n1 hT.n3 _ _) ?_
                              refine J_icmp_ne (tgt := 286) dX7_isSame_191 rfl (fun h191 => ?_) (fun h191 => ?_)
                              · exact absurd h3 h191
                              · refine J_aload_n dX7_isSame_194 rfl rfl ?_
                                refine J_iload dX7_isSame_195 rfl ?_
                                refine J_callVz (As := [_]) dX7_isSame_197 ml_X7_164 cal_X6_lossesOf im_X6_lossesOf se_X6_lossesOf (hC206.1.at 0 rfl) rfl rfl rfl (Nat.le_of_ble_eq_true rfl) ⟨by decide, by decide⟩ ⟨by omega, by omega⟩ (c_X6_lossesOf hst hC206.1 hC206.2.1 _) (lw_q hC206 (an_of hT hw)) (fun A207 hQ207 => ?_)
                                have hC207 := hQ207.1
                                have hS207 := hS206.cl hQ207.2
                                have tom207 := (hQ207.2 _ (Or.inr (by omega))).trans tom206
                                have tu207 := (hQ207.2 _ (Or.inr (by omega))).trans tu206
                                refine J_aload_n dX7_isSame_200 rfl rfl ?_
                                refine J_iload dX7_isSame_201 rfl ?_
                                refine J_iconst (v := 2) dX7_isSame_203 (by decide) ?_
                                refine J_callVr (As := [_, _]) dX7_isSame_204 ml_X7_49 cal_X7_many im_X7_many se_X7_many (hS207.W.1) rfl rfl rfl (Nat.le_of_ble_eq_true rfl) ⟨by decide, by decide⟩ ⟨by omega, by omega⟩ (c_X7_many hst hS207.W hT.n1 hT.n3 _ _) ?_
                                refine J_icmp_ne (tgt := 286) dX7_isSame_207 rfl (fun h207 => ?_) (fun h207 => ?_)
                                · exact absurd h4 h207
                                · refine J_aload_n dX7_isSame_210 rfl rfl ?_
                                  refine J_iload dX7_isSame_211 rfl ?_
                                  refine J_callVz (As := [_]) dX7_isSame_213 ml_X7_167 cal_X6_restsOf im_X6_restsOf se_X6_restsOf (hC207.1.at 0 rfl) rfl rfl rfl (Nat.le_of_ble_eq_true rfl) ⟨by decide, by decide⟩ ⟨by omega, by omega⟩ (c_X6_restsOf hst hC207.1 hC207.2.1 _) (lw_q hC207 (an_of hT hw)) (fun A208 hQ208 => ?_)
                                  have hC208 := hQ208.1
                                  have hS208 := hS207.cl hQ208.2
                                  have tom208 := (hQ208.2 _ (Or.inr (by omega))).trans tom207
                                  have tu208 := (hQ208.2 _ (Or.inr (by omega))).trans tu207
                                  refine J_aload_n dX7_isSame_216 rfl rfl ?_
                                  refine J_iload dX7_isSame_217 rfl ?_
                                  refine J_callVr (As := [_]) dX7_isSame_219 ml_X7_53 cal_X7_rested im_X7_rested se_X7_rested (hS208.W.1) rfl rfl rfl (Nat.le_of_ble_eq_true rfl) ⟨by decide, by decide⟩ ⟨by omega, by omega⟩ (c_X7_rested hst hS208.W hT.n1 hT.n3 _) ?_
                                  refine J_icmp_ne (tgt := 286) dX7_isSame_222 rfl (fun h222 => ?_) (fun h222 => ?_)
                                  · exact absurd h5 h222
                                  · refine J_aload_n dX7_isSame_225 rfl rfl ?_
                                    refine J_iload dX7_isSame_226 rfl ?_
                                    refine J_callVz (As := [_]) dX7_isSame_228 ml_X7_170 cal_X6_beltsOf im_X6_beltsOf se_X6_beltsOf (hC208.1.at 0 rfl) rfl rfl rfl (Nat.le_of_ble_eq_true rfl) ⟨by decide, by decide⟩ ⟨by omega, by omega⟩ (c_X6_beltsOf hst hC208.1 hC208.2.1 _) (lw_q hC208 (an_of hT hw)) (fun A209 hQ209 => ?_)
                                    have hC209 := hQ209.1
                                    have hS209 := hS208.cl hQ209.2
                                    have tom209 := (hQ209.2 _ (Or.inr (by omega))).trans tom208
                                    have tu209 := (hQ209.2 _ (Or.inr (by omega))).trans tu208
                                    refine J_aload_n dX7_isSame_231 rfl rfl ?_
                                    refine J_iload dX7_isSame_232 rfl ?_
                                    refine J_callVr (As := [_]) dX7_isSame_234 ml_X7_60 cal_X7_belts im_X7_belts se_X7_belts (hS209.W.1) rfl rfl rfl (Nat.le_of_ble_eq_true rfl) ⟨by decide, by decide⟩ ⟨by omega, by omega⟩ (c_X7_belts hst hS209.W hT.n1 hT.n3 _) ?_
                                    refine J_icmp_ne (tgt := 286) dX7_isSame_237 rfl (fun h237 => ?_) (fun h237 => ?_)
                                    · exact absurd h6 h237
                                    · refine J_aload_n dX7_isSame_240 rfl rfl ?_
                                      refine J_iload dX7_isSame_241 rfl ?_
                                      refine J_callVz (As := [_]) dX7_isSame_243 ml_X7_173 cal_X6_floatsOf im_X6_floatsOf se_X6_floatsOf (hC209.1.at 0 rfl) rfl rfl rfl (Nat.le_of_ble_eq_true rfl) ⟨by decide, by decide⟩ ⟨by omega, by omega⟩ (c_X6_floatsOf hst hC209.1 hC209.2.1 _) (lw_q hC209 (an_of hT hw)) (fun A210 hQ210 => ?_)
                                      have hC210 := hQ210.1
                                      have hS210 := hS209.cl hQ210.2
                                      have tom210 := (hQ210.2 _ (Or.inr (by omega))).trans tom209
                                      have tu210 := (hQ210.2 _ (Or.inr (by omega))).trans tu209
                                      refine J_aload_n dX7_isSame_246 rfl rfl ?_
                                      refine J_iload dX7_isSame_247 rfl ?_
                                      refine J_callVr (As := [_]) dX7_isSame_249 ml_X7_63 cal_X7_floats im_X7_floats se_X7_floats (hS210.W.1) rfl rfl rfl (Nat.le_of_ble_eq_true rfl) ⟨by decide, by decide⟩ ⟨by omega, by omega⟩ (c_X7_floats hst hS210.W hT.n1 hT.n3 _) ?_
                                      refine J_icmp_ne (tgt := 286) dX7_isSame_252 rfl (fun h252 => ?_) (fun h252 => ?_)
                                      · exact absurd h7 h252
                                      · refine J_aload_n dX7_isSame_255 rfl rfl ?_
                                        refine J_iload dX7_isSame_256 rfl ?_
                                        refine J_callVz (As := [_]) dX7_isSame_258 ml_X7_176 cal_X6_pointsOfMet im_X6_pointsOfMet se_X6_pointsOfMet (hC210.1.at 0 rfl) rfl rfl rfl (Nat.le_of_ble_eq_true rfl) ⟨by decide, by decide⟩ ⟨by omega, by omega⟩ (c_X6_pointsOfMet hst hC210.1 hC210.2.1 _) (lw_q hC210 (an_rpt hT hw)) (fun A211 hQ211 => ?_)
                                        have hC211 := hQ211.1
                                        have hS211 := hS210.cl hQ211.2
                                        have tom211 := (hQ211.2 _ (Or.inr (by omega))).trans tom210
                                        have tu211 := (hQ211.2 _ (Or.inr (by omega))).trans tu210
                                        refine J_aload_n dX7_isSame_261 rfl rfl ?_
                                        refine J_iload dX7_isSame_262 rfl ?_
                                        refine J_callVr (As := [_]) dX7_isSame_264 ml_X7_66 cal_X7_ofMet im_X7_ofMet se_X7_ofMet (hS211.W.1) rfl rfl rfl (Nat.le_of_ble_eq_true rfl) ⟨by decide, by decide⟩ ⟨by omega, by omega⟩ (c_X7_ofMet hst hS211.W hT.n1 hT.n3 _) ?_
                                        refine J_icmp_ne (tgt := 286) dX7_isSame_267 rfl (fun h267 => ?_) (fun h267 => ?_)
                                        · exact absurd hm.symm h267
                                        · refine J_aload_n dX7_isSame_270 rfl rfl ?_
                                          refine J_iload dX7_isSame_271 rfl ?_
                                          refine J_callVz (As := [_]) dX7_isSame_273 ml_X7_179 cal_X6_isIn im_X6_isIn se_X6_isIn (hC211.1.at 0 rfl) rfl rfl rfl (Nat.le_of_ble_eq_true rfl) ⟨by decide, by decide⟩ ⟨by omega, by omega⟩ (c_X6_isIn hst hC211.1 hC211.2.1 _) (lw_q hC211 (an_in hT hw)) (fun A212 hQ212 => ?_)
                                          have hC212 := hQ212.1
                                          have hS212 := hS211.cl hQ212.2
                                          have tom212 := (hQ212.2 _ (Or.inr (by omega))).trans tom211
                                          have tu212 := (hQ212.2 _ (Or.inr (by omega))).trans tu211
                                          refine J_aload_n dX7_isSame_276 rfl rfl ?_
                                          refine J_getf dX7_isSame_277 fl_X7_25 (hS212.W.1) rfl ?_
                                          refine J_iload dX7_isSame_280 rfl ?_
                                          refine J_zald (v := S.2.1 6 w) dX7_isSame_282 (hS212.W.2.2.2.1) (vp_in_nI (by omega) (by decide)) (by rw [nI_clamp (by omega)]) ?_
                                          refine J_icmp_ne (tgt := 288) dX7_isSame_283 rfl (fun h283 => ?_) (fun h283 => ?_)
                                          · refine J_iconst (v := 0) dX7_isSame_288 (by decide) ?_
                                            refine J_istore (L' := [(8, _), (4, _), (7, _), (6, _), (5, _), (3, _), (2, _), (0, _), (1, _)]) dX7_isSame_289 (by decide) rfl ?_
                                            obtain ⟨K0, hK0, hK0u⟩ : ∃ K0, K + 14 + 2 * nwV G = K0 ∧ K0 + 30 * (nwV G - (i + 1)) ≤ 1700 := ⟨_, rfl, by omega⟩
                                            obtain ⟨J0, hJ0, hJ0u⟩ : ∃ J0, J + 90 + 12 * nwV G = J0 ∧ J0 + 180 * (nwV G - (i + 1)) ≤ 35000 := ⟨_, rfl, by omega⟩
                                            have inner : ∀ o, o ≤ nwV G → ∀  (A1 : xx_H) (K J : Nat), K + 2 * (nwV G - o) ≤ K0 → J + 12 * (nwV G - o) ≤ J0 → (cI G b F nb r A1) → (sI G b h S A1) → (A1 u8 = some (.inl (3, nb, .inr (.inr (.inr (.inr f8)))))) → (A1 (n1 + 2) = some (.inl (0, nwV G, .inl om))) → xx_J G l mX7_isSame 12 500 2000 40000 (sameQ) 291 [(8, .int (nI o)), (7, .int (ptS S (nI w))), (6, .int (nI w)), (5, .int (nI i)), (4, .int (acc + ptS S (nI w))), (3, .ref (n1 + 2)), (2, .ref u8), (0, .ref h), (1, .ref b)] [] A1 (n1 + 3) K J := by
                                              refine xx_dn ?_ ?_
                                              · intro  A1 K J hK hJ hC5 hS5 tu5 tom5
                                                have eo : (nI (nwV G)).toInt = nwV G := enw
                                                refine J_iload dX7_isSame_291 rfl ?_
                                                refine J_aload_n dX7_isSame_293 rfl rfl ?_
                                                refine J_getf dX7_isSame_294 fl_X7_38 (hS5.W.1) rfl ?_
                                                rw [hS60]
                                                refine J_icmp_ge (tgt := 329) dX7_isSame_297 rfl (fun h297 => ?_) (fun h297 => ?_)
                                                · refine J_iinc (v := _ + 1) (L' := [(5, _), (8, _), (7, _), (6, _), (4, _), (3, _), (2, _), (0, _), (1, _)]) dX7_isSame_329 rfl rfl (by decide) rfl ?_
                                                  refine J_goto (tgt := 83) dX7_isSame_332 rfl ?_
                                                  refine xx_J.pick [0, 4, 5, 6, 7, 8] rfl ?_
                                                  rw [nI_1]
                                                  exact ih _ _ _ _ (by omega) (by omega) hC5 hS5 tu5 tom5 (by rw [bx_s, ← hsum, ← hwe])
                                                · first | (exfalso; simp only [i_lt, i_le, i_eq, i_0, i_1, i_2, i_3, i_4, i_5, i_6, i_8, i_9, i_10, i_12, i_16, i_20, i_m1] at h297; omega) | (exfalso; simp only [s_up, a_up, va_up, i_lt, i_le, i_eq, i_0, i_1, i_2, i_3, i_4, i_5, i_6, i_8, i_9, i_10, i_12, i_16, i_20, i_m1, ↓reduceIte, Nat.reduceEqDiff] at h297; omega)
                                              · intro o hio ih  A1 K J hK hJ hC5 hS5 tu5 tom5
                                                have eo : (nI o).toInt = o := i_n (by omega)
                                                refine J_iload dX7_isSame_291 rfl ?_
                                                refine J_aload_n dX7_isSame_293 rfl rfl ?_
                                                refine J_getf dX7_isSame_294 fl_X7_38 (hS5.W.1) rfl ?_
                                                rw [hS60]
                                                refine J_icmp_ge (tgt := 329) dX7_isSame_297 rfl (fun h297 => ?_) (fun h297 => ?_)
                                                · first | (exfalso; simp only [i_lt, i_le, i_eq, i_0, i_1, i_2, i_3, i_4, i_5, i_6, i_8, i_9, i_10, i_12, i_16, i_20, i_m1] at h297; omega) | (exfalso; simp only [s_up, a_up, va_up, i_lt, i_le, i_eq, i_0, i_1, i_2, i_3, i_4, i_5, i_6, i_8, i_9, i_10, i_12, i_16, i_20, i_m1, ↓reduceIte, Nat.reduceEqDiff] at h297; omega)
                                                · refine J_aload_n dX7_isSame_300 rfl rfl ?_
                                                  refine J_iload dX7_isSame_301 rfl ?_
                                                  refine J_iload dX7_isSame_303 rfl ?_
                                                  refine J_callVz (As := [_, _]) dX7_isSame_305 ml_X7_182 cal_X6_timesMet im_X6_timesMet se_X6_timesMet (hC5.1.at 0 rfl) rfl rfl rfl (Nat.le_of_ble_eq_true rfl) ⟨by decide, by decide⟩ ⟨by omega, by omega⟩ (c_X6_timesMet hst hC5.1 hC5.2.1 _ _) (lw_q hC5 (an_met hT hw hio)) (fun A413 hQ413 => ?_)
                                                  have hC413 := hQ413.1
                                                  have hS413 := hS5.cl hQ413.2
                                                  have tom413 := (hQ413.2 _ (Or.inr (by omega))).trans tom5
                                                  have tu413 := (hQ413.2 _ (Or.inr (by omega))).trans tu5
                                                  refine J_aload_n dX7_isSame_308 rfl rfl ?_
                                                  refine J_iload dX7_isSame_309 rfl ?_
                                                  refine J_iload dX7_isSame_311 rfl ?_
                                                  refine J_bipush (v := 99) dX7_isSame_313 (by decide) ?_
                                                  refine J_callVr (As := [_, _, _]) dX7_isSame_315 ml_X7_83 cal_X7_met im_X7_met se_X7_met (hS413.W.1) rfl rfl rfl (Nat.le_of_ble_eq_true rfl) ⟨by decide, by decide⟩ ⟨by omega, by omega⟩ (c_X7_met hst hS413.W hT.n1 hT.n3 _ _ _) ?_
                                                  refine J_icmp_eq (tgt := 323) dX7_isSame_318 rfl (fun h318 => ?_) (fun h318 => ?_)
                                                  · refine J_iinc (v := _ + 1) (L' := [(8, _), (7, _), (6, _), (5, _), (4, _), (3, _), (2, _), (0, _), (1, _)]) dX7_isSame_323 rfl rfl (by decide) rfl ?_
                                                    refine J_goto (tgt := 291) dX7_isSame_326 rfl ?_
                                                    rw [nI_1]
                                                    refine xx_J.pick [0, 1, 2, 3, 4, 5, 6, 7, 8] rfl ?_
                                                    exact ih _ _ _ (by omega) (by omega) hC413 hS413 tu413 tom413
                                                  · exact absurd (hT.2.2.1.2.2.2 w o hw hio) h318
                                            refine xx_J.pick [0, 2, 3, 4, 1, 5, 6, 7, 8] rfl ?_
                                            exact inner 0 (Nat.zero_le _) _ _ _ (by omega) (by omega) hC212 hS212 tu212 tom212
                                          · exfalso
                                            rcases hT.2.2.1.2.1 w hw with ⟨y1, y2⟩ | ⟨y1, y2⟩
                                            · rw [y1, y2] at h283; exact absurd h283 (by decide)
                                            · rw [y1, y2] at h283; exact absurd h283 (by decide)
              refine xx_J.pick [0, 1, 2, 3, 4, 5] rfl ?_
              exact loop1 0 (Nat.zero_le _) 0 _ _ _ (by omega) (by omega) hC2 hS2 a32 o1 rfl
            · exact absurd hT.op.1.symm h67
end XLS
