/-! THE LAW -/
section XLW
variable {G : xx_G} {l : Launch} {A : xx_H} {n b bm ho i k j q s e t d : Nat}
theorem and63 (x : Int32) : ∃ q, q < 64 ∧ x &&& 63 = nI q := by
  refine ⟨(x.toBitVec &&& 63#32).toNat, ?_, ?_⟩
  · rw [BitVec.toNat_and]
    exact Nat.lt_of_le_of_lt Nat.and_le_right (by decide)
  · refine Int32.toBitVec_inj.mp ?_
    show x.toBitVec &&& 63#32 = BitVec.ofNat 32 (x.toBitVec &&& 63#32).toNat
    exact BitVec.eq_of_toNat_eq (by rw [BitVec.toNat_ofNat, Nat.mod_eq_of_lt (BitVec.isLt _)])
theorem sub6 (L : Nat) (h : L < 3073) : (nI L - 6).toInt = (L : Int) - 6 := by
  by_cases c : 6 ≤ L
  · obtain ⟨m, rfl⟩ : ∃ m, L = m + 6 := ⟨L - 6, by omega⟩
    have e : nI (m + 6) - 6 = nI m := by
      rw [← nI_add m 6]
      exact Int32.add_sub_cancel _ _
    rw [e, i_n (by omega)]
    omega
  · have : L = 0 ∨ L = 1 ∨ L = 2 ∨ L = 3 ∨ L = 4 ∨ L = 5 := by omega
    rcases this with rfl | rfl | rfl | rfl | rfl | rfl <;> rfl
set_option maxHeartbeats 4000000 in
theorem law_step (hst : l.stackTraces = false) (hbm : b + 46 ≤ bm) (hho : ho = bm + 48) (hL : G.2.2.2 200 ≤ 3072) (hI : lwI b bm ho n A) (hq : q ≤ 520) (hk : k ≤ 200 + 40 * q) (hj : j ≤ 30000 + 2300 * q) (next : 6 * q + 6 ≤ G.2.2.2 200 → ∀ A' n' k' j', lwI b bm ho n' A' → k' ≤ k + 40 → j' ≤ j + 2300 → xx_J G l mL_law 2048 84000 601024 7293034 (fun r _ _ => r = .inl (some (.int 1))) 23 [(4, .int (nI (6 * (q + 1)))), (3, .ref ho), (2, .ref bm), (1, .ref b), (0, .ref 160)] [] A' n' k' j') : xx_J G l mL_law 2048 84000 601024 7293034 (fun r _ _ => r = .inl (some (.int 1))) 23 [(4, .int (nI (6 * q))), (3, .ref ho), (2, .ref bm), (1, .ref b), (0, .ref 160)] [] A n k j := by
  refine J_iload dL_law_23 rfl ?_
  refine J_aload_n dL_law_25 rfl rfl ?_
  refine J_scl dL_law_26 ?_
  refine J_bipush (v := 6) dL_law_27 (by decide) ?_
  refine J_isub dL_law_29 ?_
  have e6 := sub6 (G.2.2.2 200) (by omega)
  refine J_icmp_gt (tgt := 2068) dL_law_30 rfl (fun h30 => ?_) (fun h30 => ?_)
  · refine J_iconst (v := 1) dL_law_2068 (by decide) ?_
    exact J_ireturn (ty := .boolean) dL_law_2069 rfl (by decide) (by omega) (by omega) rfl
  · rw [i_lt, e6, i_n (by omega)] at h30
    have hi : 6 * q + 6 ≤ G.2.2.2 200 := by omega
    have hL2 : G.2.2.2 200 < 2147483648 := by omega
    refine J_aload_n dL_law_33 rfl rfl ?_
    refine J_iload dL_law_34 rfl ?_
    refine J_scr (q := 6 * q) dL_law_36 rfl (by omega) hL2 ?_
    refine J_bipush (v := 63) dL_law_37 (by decide) ?_
    refine J_iand dL_law_39 ?_
    obtain ⟨v, hv, ev⟩ := and63 (xx_scr G (6 * q))
    rw [ev]
    have C : ∀ A' n' k' j', lwI b bm ho n' A' → k' ≤ k + 40 → j' ≤ j + 2300 → xx_J G l mL_law 2048 84000 601024 7293034 (fun r _ _ => r = .inl (some (.int 1))) 2062 [(4, .int (nI (6 * q))), (3, .ref ho), (2, .ref bm), (1, .ref b), (0, .ref 160)] [] A' n' k' j' := fun A' n' k' j' h1 h2 h3 => by
      refine J_iinc (v := nI (6 * (q + 1))) dL_law_2062 rfl ?_ (Nat.le_of_ble_eq_true rfl) rfl ?_
      · show nI (6 * q) + nI 6 = _
        rw [nI_add]
        rfl
      · exact J_goto (tgt := 23) dL_law_2065 rfl (next hi A' n' k' j' h1 h2 h3)
    by_cases h40 : 40 ≤ v
    · exact J_tableOut (tgt := 2062) dL_law_40 (Or.inr (by rw [i_n (by omega)]; omega)) rfl (C A n k j hI (by omega) (by omega))
    · rcases (show v = 0 ∨ v = 1 ∨ v = 2 ∨ v = 3 ∨ v = 4 ∨ v = 5 ∨ v = 6 ∨ v = 7 ∨ v = 8 ∨ v = 9 ∨ v = 10 ∨ v = 11 ∨ v = 12 ∨ v = 13 ∨ v = 14 ∨ v = 15 ∨ v = 16 ∨ v = 17 ∨ v = 18 ∨ v = 19 ∨ v = 20 ∨ v = 21 ∨ v = 22 ∨ v = 23 ∨ v = 24 ∨ v = 25 ∨ v = 26 ∨ v = 27 ∨ v = 28 ∨ v = 29 ∨ v = 30 ∨ v = 31 ∨ v = 32 ∨ v = 33 ∨ v = 34 ∨ v = 35 ∨ v = 36 ∨ v = 37 ∨ v = 38 ∨ v = 39 by omega) with rfl | rfl | rfl | rfl | rfl | rfl | rfl | rfl | rfl | rfl | rfl | rfl | rfl | rfl | rfl | rfl | rfl | rfl | rfl | rfl | rfl | rfl | rfl | rfl | rfl | rfl | rfl | rfl | rfl | rfl | rfl | rfl | rfl | rfl | rfl | rfl | rfl | rfl | rfl | rfl
      · exact J_tableIn (off := 176) (tgt := 216) dL_law_40 (by decide) (by decide) rfl rfl (lc_0 hst hbm hho hi hL2 hI ⟨by omega, by omega⟩ C)
      · exact J_tableIn (off := 280) (tgt := 320) dL_law_40 (by decide) (by decide) rfl rfl (lc_1 hst hbm hho hi hL2 hI ⟨by omega, by omega⟩ C)
      · exact J_tableIn (off := 336) (tgt := 376) dL_law_40 (by decide) (by decide) rfl rfl (lc_2 hst hbm hho hI ⟨by omega, by omega⟩ C)
      · exact J_tableIn (off := 349) (tgt := 389) dL_law_40 (by decide) (by decide) rfl rfl (lc_3 hst hbm hho hi hL2 hI ⟨by omega, by omega⟩ C)
      · exact J_tableIn (off := 362) (tgt := 402) dL_law_40 (by decide) (by decide) rfl rfl (lc_4 hst hbm hho hi hL2 hI ⟨by omega, by omega⟩ C)
      · exact J_tableIn (off := 375) (tgt := 415) dL_law_40 (by decide) (by decide) rfl rfl (lc_5 hst hbm hho hi hL2 hI ⟨by omega, by omega⟩ C)
      · exact J_tableIn (off := 388) (tgt := 428) dL_law_40 (by decide) (by decide) rfl rfl (lc_6 hst hbm hho hi hL2 hI ⟨by omega, by omega⟩ C)
      · exact J_tableIn (off := 401) (tgt := 441) dL_law_40 (by decide) (by decide) rfl rfl (lc_7 hst hbm hho hi hL2 hI ⟨by omega, by omega⟩ C)
      · exact J_tableIn (off := 414) (tgt := 454) dL_law_40 (by decide) (by decide) rfl rfl (lc_8 hst hbm hho hi hL2 hI ⟨by omega, by omega⟩ C)
      · exact J_tableIn (off := 427) (tgt := 467) dL_law_40 (by decide) (by decide) rfl rfl (lc_9 hst hbm hho hi hL2 hI ⟨by omega, by omega⟩ C)
      · exact J_tableIn (off := 440) (tgt := 480) dL_law_40 (by decide) (by decide) rfl rfl (lc_10 hst hbm hho hi hL2 hI ⟨by omega, by omega⟩ C)
      · exact J_tableIn (off := 453) (tgt := 493) dL_law_40 (by decide) (by decide) rfl rfl (lc_11 hst hbm hho hi hL2 hI ⟨by omega, by omega⟩ C)
      · exact J_tableIn (off := 509) (tgt := 549) dL_law_40 (by decide) (by decide) rfl rfl (lc_12 hst hbm hho hi hL2 hI ⟨by omega, by omega⟩ C)
      · exact J_tableIn (off := 565) (tgt := 605) dL_law_40 (by decide) (by decide) rfl rfl (lc_13 hst hbm hho hi hL2 hI ⟨by omega, by omega⟩ C)
      · exact J_tableIn (off := 621) (tgt := 661) dL_law_40 (by decide) (by decide) rfl rfl (lc_14 hst hbm hho hi hL2 hI ⟨by omega, by omega⟩ C)
      · exact J_tableIn (off := 677) (tgt := 717) dL_law_40 (by decide) (by decide) rfl rfl (lc_15 hst hbm hho hi hL2 hI ⟨by omega, by omega⟩ C)
      · exact J_tableIn (off := 733) (tgt := 773) dL_law_40 (by decide) (by decide) rfl rfl (lc_16 hst hbm hho hi hL2 hI ⟨by omega, by omega⟩ C)
      · exact J_tableIn (off := 789) (tgt := 829) dL_law_40 (by decide) (by decide) rfl rfl (lc_17 hst hbm hho hi hL2 hI ⟨by omega, by omega⟩ C)
      · exact J_tableIn (off := 845) (tgt := 885) dL_law_40 (by decide) (by decide) rfl rfl (lc_18 hst hbm hho hi hL2 hI ⟨by omega, by omega⟩ C)
      · exact J_tableIn (off := 901) (tgt := 941) dL_law_40 (by decide) (by decide) rfl rfl (lc_19 hst hbm hho hi hL2 hI ⟨by omega, by omega⟩ C)
      · exact J_tableIn (off := 957) (tgt := 997) dL_law_40 (by decide) (by decide) rfl rfl (lc_20 hst hbm hho hi hL2 hI ⟨by omega, by omega⟩ C)
      · exact J_tableIn (off := 1013) (tgt := 1053) dL_law_40 (by decide) (by decide) rfl rfl (lc_21 hst hbm hho hi hL2 hI ⟨by omega, by omega⟩ C)
      · exact J_tableIn (off := 1076) (tgt := 1116) dL_law_40 (by decide) (by decide) rfl rfl (lc_22 hst hbm hho hi hL2 hI ⟨by omega, by omega⟩ C)
      · exact J_tableIn (off := 1132) (tgt := 1172) dL_law_40 (by decide) (by decide) rfl rfl (lc_23 hst hbm hho hi hL2 hI ⟨by omega, by omega⟩ C)
      · exact J_tableIn (off := 1200) (tgt := 1240) dL_law_40 (by decide) (by decide) rfl rfl (lc_24 hst hbm hho hi hL2 hI ⟨by omega, by omega⟩ C)
      · exact J_tableIn (off := 1256) (tgt := 1296) dL_law_40 (by decide) (by decide) rfl rfl (lc_25 hst hbm hho hi hL2 hI ⟨by omega, by omega⟩ C)
      · exact J_tableIn (off := 1312) (tgt := 1352) dL_law_40 (by decide) (by decide) rfl rfl (lc_26 hst hbm hho hi hL2 hI ⟨by omega, by omega⟩ C)
      · exact J_tableIn (off := 1368) (tgt := 1408) dL_law_40 (by decide) (by decide) rfl rfl (lc_27 hst hbm hho hi hL2 hI ⟨by omega, by omega⟩ C)
      · exact J_tableIn (off := 1424) (tgt := 1464) dL_law_40 (by decide) (by decide) rfl rfl (lc_28 hst hbm hho hi hL2 hI ⟨by omega, by omega⟩ C)
      · exact J_tableIn (off := 1480) (tgt := 1520) dL_law_40 (by decide) (by decide) rfl rfl (lc_29 hst hbm hho hi hL2 hI ⟨by omega, by omega⟩ C)
      · exact J_tableIn (off := 1524) (tgt := 1564) dL_law_40 (by decide) (by decide) rfl rfl (lc_30 hst hbm hho hi hL2 hI ⟨by omega, by omega⟩ C)
      · exact J_tableIn (off := 1568) (tgt := 1608) dL_law_40 (by decide) (by decide) rfl rfl (lc_31 hst hbm hho hi hL2 hI ⟨by omega, by omega⟩ C)
      · exact J_tableIn (off := 1636) (tgt := 1676) dL_law_40 (by decide) (by decide) rfl rfl (lc_32 hst hbm hho hi hL2 hI ⟨by omega, by omega⟩ C)
      · exact J_tableIn (off := 1680) (tgt := 1720) dL_law_40 (by decide) (by decide) rfl rfl (lc_33 hst hbm hho hi hL2 hI ⟨by omega, by omega⟩ C)
      · exact J_tableIn (off := 1743) (tgt := 1783) dL_law_40 (by decide) (by decide) rfl rfl (lc_34 hst hbm hho hi hL2 hI ⟨by omega, by omega⟩ C)
      · exact J_tableIn (off := 1799) (tgt := 1839) dL_law_40 (by decide) (by decide) rfl rfl (lc_35 hst hbm hho hi hL2 hI ⟨by omega, by omega⟩ C)
      · exact J_tableIn (off := 1843) (tgt := 1883) dL_law_40 (by decide) (by decide) rfl rfl (lc_36 hst hbm hho hi hL2 hI ⟨by omega, by omega⟩ C)
      · exact J_tableIn (off := 1899) (tgt := 1939) dL_law_40 (by decide) (by decide) rfl rfl (lc_37 hst hbm hho hi hL2 hI ⟨by omega, by omega⟩ C)
      · exact J_tableIn (off := 1967) (tgt := 2007) dL_law_40 (by decide) (by decide) rfl rfl (lc_38 hst hbm hho hi hL2 hI ⟨by omega, by omega⟩ C)
      · exact J_tableIn (off := 2008) (tgt := 2048) dL_law_40 (by decide) (by decide) rfl rfl (lc_39 hst hbm hho hi hL2 hI ⟨by omega, by omega⟩ C)
theorem ho0 : okF (fS (s_up x0 2 (-1)) (a_up x0 3 wo0)) 0 0 0 := by
  refine ⟨⟨rfl, by omega⟩, ⟨rfl, by omega⟩, ⟨rfl, by omega⟩, fun w hw => absurd hw (Nat.not_lt_zero w), fun i j hi => absurd hi (Nat.not_lt_zero i), fun i hi => ?_, fun q hq => absurd hq (Nat.not_lt_zero q), fun w hw => absurd hw (Nat.not_lt_zero w), fun q hq => absurd hq (Nat.not_lt_zero q)⟩
  have : i = 0 ∨ i = 1 ∨ i = 2 := by omega
  rcases this with rfl | rfl | rfl <;> exact ⟨by decide, by decide⟩
theorem he0 : eqF 0 0 (s_up x0 9 (-1)) (fS (s_up x0 2 (-1)) (a_up x0 3 wo0)) := by
  refine ⟨⟨rfl, rfl, rfl, rfl⟩, fun i hi => Or.inr ⟨rfl, ⟨(by decide : 0 ≤ (0 : Int32).toInt), (by decide : (0 : Int32).toInt ≤ 9)⟩, ho0.2.2.2.2.2.1 i hi⟩, fun c w _ hw => absurd hw (Nat.not_lt_zero w), fun i j hi => absurd hi (Nat.not_lt_zero i), fun q hq => absurd hq (Nat.not_lt_zero q)⟩
theorem law_loop (hst : l.stackTraces = false) (hbm : b + 46 ≤ bm) (hho : ho = bm + 48) (hL : G.2.2.2 200 ≤ 3072) : ∀ d q A n k j, G.2.2.2 200 < 6 * (q + d) + 6 → lwI b bm ho n A → k ≤ 200 + 40 * q → j ≤ 30000 + 2300 * q → q ≤ 520 → xx_J G l mL_law 2048 84000 601024 7293034 (fun r _ _ => r = .inl (some (.int 1))) 23 [(4, .int (nI (6 * q))), (3, .ref ho), (2, .ref bm), (1, .ref b), (0, .ref 160)] [] A n k j := by
  intro d
  induction d with
  | zero =>
    intro q A n k j h hI hk hj hq
    exact law_step hst hbm hho hL hI hq hk hj (fun hi => absurd hi (by omega))
  | succ d ih =>
    intro q A n k j h hI hk hj hq
    refine law_step hst hbm hho hL hI hq hk hj (fun hi A' n' k' j' h1 h2 h3 => ?_)
    have a1 : G.2.2.2 200 < 6 * (q + 1 + d) + 6 := by omega
    have a2 : k' ≤ 200 + 40 * (q + 1) := by omega
    have a3 : j' ≤ 30000 + 2300 * (q + 1) := Nat.le_trans h3 (Nat.le_trans (Nat.add_le_add_right hj 2300) (Nat.le_of_eq (by rw [Nat.mul_add, Nat.mul_one, Nat.add_assoc])))
    have a4 : q + 1 ≤ 520 := by omega
    exact ih (q + 1) A' n' k' j' a1 h1 a2 a3 a4
set_option maxHeartbeats 4000000 in
theorem law_all (hst : l.stackTraces = false) (hL : G.2.2.2 200 ≤ 3072) : xx_J G l mL_law 2048 84000 601024 7293034 (fun r _ _ => r = .inl (some (.int 1))) 0 [(0, .ref 160)] [] (fun _ => none) 200 0 0 := by
  refine J_new (fs := [.null, .null, .null, .null, .null, .null]) dL_law_0 k_5 cl_L_8 ins_BeltRounds in_BeltRounds (fun q hq => by rcases (show q = 0 ∨ q = 1 ∨ q = 2 ∨ q = 3 ∨ q = 4 ∨ q = 5 by omega) with rfl | rfl | rfl | rfl | rfl | rfl <;> rfl) (fun v hv q h => by subst h; simp at hv) (Nat.le_of_ble_eq_true rfl) (Nat.le_of_ble_eq_true rfl) ?_
  refine J_dup dL_law_3 rfl ?_
  refine J_callI (As := []) dL_law_4 (Or.inl ml_L_107) cal_X6_init rfl rfl rfl im_X6_init rfl (Nat.le_of_ble_eq_true rfl) ⟨by decide, by decide⟩ ⟨Nat.le_of_ble_eq_true rfl, Nat.le_of_ble_eq_true rfl⟩ (c_X6_init (b := 200) hst (xx_up_s _ _ _)) (fun v1 A1 n1 _ hQ1 => ?_)
  obtain ⟨e1, en1, old1, hX, hW, hR, hF, hF2, hP⟩ := hQ1
  cases e1
  subst en1
  refine J_astore_n dL_law_7 rfl (Nat.le_of_ble_eq_true rfl) rfl ?_
  refine J_new (fs := [.int 0, .null, .int 0, .int 0, .null, .null, .null, .null, .null, .int 0, .int 0, .null, .null, .null, .int 0, .int 0, .null, .null, .null, .null, .int 0, .int 0]) dL_law_8 k_8 cl_L_108 ins_BeltRoundsModel in_BeltRoundsModel (fun q hq => by rcases (show q = 0 ∨ q = 1 ∨ q = 2 ∨ q = 3 ∨ q = 4 ∨ q = 5 ∨ q = 6 ∨ q = 7 ∨ q = 8 ∨ q = 9 ∨ q = 10 ∨ q = 11 ∨ q = 12 ∨ q = 13 ∨ q = 14 ∨ q = 15 ∨ q = 16 ∨ q = 17 ∨ q = 18 ∨ q = 19 ∨ q = 20 ∨ q = 21 by omega) with rfl | rfl | rfl | rfl | rfl | rfl | rfl | rfl | rfl | rfl | rfl | rfl | rfl | rfl | rfl | rfl | rfl | rfl | rfl | rfl | rfl | rfl <;> rfl) (fun v hv q h => by subst h; simp at hv) (Nat.le_of_ble_eq_true rfl) (Nat.le_of_ble_eq_true rfl) ?_
  refine J_dup dL_law_11 rfl ?_
  refine J_callI (As := []) dL_law_12 (Or.inl ml_L_110) cal_X9_init rfl rfl rfl im_X9_init rfl (Nat.le_of_ble_eq_true rfl) ⟨by decide, by decide⟩ ⟨Nat.le_of_ble_eq_true rfl, Nat.le_of_ble_eq_true rfl⟩ (c_X9_init (b := 246) hst (xx_up_s _ _ _)) (fun v2 A2 n2 _ hQ2 => ?_)
  obtain ⟨e2, en2, old2, hM, hN, hS, hS2⟩ := hQ2
  cases e2
  subst en2
  have o2 : ∀ z, z < 246 → A2 z = A1 z := fun z hz => (old2 z hz).trans (xx_up_n _ _ (by omega))
  refine J_astore_n dL_law_15 rfl (Nat.le_of_ble_eq_true rfl) rfl ?_
  refine J_iconst (v := 1) dL_law_16 (by decide) ?_
  refine J_newl (N := 1) dL_law_17 ac_long (by decide) (by decide) (by decide) (Nat.le_of_ble_eq_true rfl) (Nat.le_of_ble_eq_true rfl) ?_
  refine J_astore_n dL_law_19 rfl (Nat.le_of_ble_eq_true rfl) rfl ?_
  refine J_iconst (v := 0) dL_law_20 (by decide) ?_
  refine J_istore dL_law_21 (Nat.le_of_ble_eq_true rfl) rfl ?_
  have o3 : ∀ z, z < 294 → xx_up A2 294 (.inl (3, 1, .inr (.inl (fun _ => 0)))) z = A2 z := fun z hz => xx_up_n _ _ (by omega)
  refine law_loop hst (b := 200) (bm := 246) (ho := 294) (by omega) rfl hL 512 0 _ _ _ _ (by omega) ?_ (Nat.le_of_ble_eq_true rfl) (Nat.le_of_ble_eq_true rfl) (by omega)
  refine ⟨x0, 0, -1, fun _ _ _ => 1, 0, 0, 0, 0, s_up x0 2 (-1), a_up x0 3 wo0, 248, 261, fun _ => 0, ⟨s_up x0 8 (-1), x0, fun _ => none, ?_, ?_, rfl, ?_⟩, ⟨s_up x0 3 (-1), fun _ => 0, fun _ => 0, s_up x0 2 (-1), ?_, ?_, ?_, ?_, ⟨rfl, by omega, fun q hq => absurd hq (Nat.not_lt_zero q)⟩, rfl, rfl⟩, ?_, ⟨ho0, ?_, fun _ _ _ h => absurd h (Nat.not_lt_zero _), fun _ _ _ => Or.inr (Or.inl rfl), fun _ _ _ _ _ _ _ _ => rfl, fun _ _ => Or.inl rfl⟩, ?_⟩
  · exact (hX.f9 (m := 1) (fun z a c => (o3 z (by omega)).trans (o2 z (by omega))) rfl)
  · exact hW.fr (fun z a c => (o3 z (by omega)).trans (o2 z (by omega)))
  · exact ⟨x0, s_up x0 9 (-1), s_up x0 9 (-1), s_up x0 2 (-1), hR.f9 (m := 6) (fun z a c => (o3 z (by omega)).trans (o2 z (by omega))) rfl, hF.f9 (m := 9) (fun z a c => (o3 z (by omega)).trans (o2 z (by omega))) rfl, hF2.f9 (m := 9) (fun z a c => (o3 z (by omega)).trans (o2 z (by omega))) rfl, hP.f9 (m := 6) (fun z a c => (o3 z (by omega)).trans (o2 z (by omega))) rfl, ⟨fun _ => 0, 0, rfl, ⟨rfl, by omega, fun r hr => absurd hr (Nat.not_lt_zero r)⟩, fun _ _ _ => rfl⟩, he0, he0.symm.ok ho0⟩
  · exact hM.f9 (m := 48) (fun z a c => o3 z (by omega)) rfl
  · exact hN.f9 (m := 9) (fun z a c => o3 z (by omega)) rfl
  · exact hS.f9 (m := 14) (fun z a c => o3 z (by omega)) rfl
  · exact hS2.f9 (m := 14) (fun z a c => o3 z (by omega)) rfl
  · intro i z e he
    cases i with
    | zero => cases he; exact xx_up_s _ _ _
    | succ i => exact absurd he (by simp)
  · exact ⟨rfl, by omega, fun r hr => absurd hr (Nat.not_lt_zero r)⟩
  · exact ⟨⟨Or.inl rfl, Or.inl rfl, by omega⟩, ⟨Or.inl rfl, Or.inr (Or.inl rfl), by omega⟩, by omega, Or.inl rfl, Or.inl rfl, by omega, by omega, by omega⟩
end XLW
