/-! TAPE: isSpelt, signWithText, signOf, scan -/
section XSC
variable {G : xx_G} {l : Launch} {A : xx_H} {n : Nat} {b : Nat} {T : xS} {sg : Nat → Option Nat}
/-- do the bytes from s on spell the text i, d of them from p on -/
def spF (T : xS) (len s i : Nat) : Nat → Nat → Bool
  | 0, _ => true
  | d + 1, p => decide (bat T len (s + p) = (txt i).getD p 0) && spF T len s i d (p + 1)
theorem spF_s {T : xS} {len s i d p : Nat} (h : p < d) : spF T len s i (d - p) p = (decide (bat T len (s + p) = (txt i).getD p 0) && spF T len s i (d - (p + 1)) (p + 1)) := by
  rw [show d - p = (d - (p + 1)) + 1 by omega]
  rfl
abbrev spelt (T : xS) (len s e i : Nat) : Prop := (txt i).length = e - s ∧ spF T len s i (txt i).length 0 = true
set_option maxHeartbeats 4000000 in
theorem c_X5_isSpelt (hst : l.stackTraces = false) (hT : xx_w b (layT sg b T) A) {len : Nat} (hlen : T.1 1 = nI len) (h20 : len ≤ 2000) {i : Nat} (hi : i < 59) {s e : Nat} {x1 x2 : Int32} (hx1 : x1 = nI s) (hx2 : x2 = nI e) (hse : s ≤ e) (hel : e ≤ len) : xx_C G l yX5_isSpelt mX5_isSpelt 4 91 0 0 [.ref b, .ref (41 + i), .int x1, .int x2] A n (xx_ro (some (.int (xx_b (spelt T len s e i)))) A n) := by
  have htl := tx_len i hi
  have hes : x2 - x1 = nI (e - s) := by rw [hx1, hx2, pk_sub hse]
  refine J_C hst (by decide +kernel) rfl rfl rfl (Nat.le_of_ble_eq_true rfl) ?_
  show xx_J _ _ _ _ _ _ _ _ 0 [(0, _), (1, _), (2, _), (3, _)] [] _ _ _ _
  refine J_aload_n dX5_isSpelt_0 rfl rfl ?_
  refine J_callVrS (As := []) dX5_isSpelt_1 ml_X5_96 cal_J0_length_8abf5 im_J0_length_8abf5 se_J0_length_8abf5 (by omega) (so_tx hi) rfl rfl (Nat.le_of_ble_eq_true rfl) ⟨by decide, by decide⟩ ⟨by decide, by decide⟩ (c_J0_length_8abf5 hst hi) ?_
  refine J_iload_n dX5_isSpelt_4 rfl rfl ?_
  refine J_iload_n dX5_isSpelt_5 rfl rfl ?_
  refine J_isub dX5_isSpelt_6 ?_
  rw [hes]
  refine J_icmp_ne (tgt := 14) dX5_isSpelt_7 rfl (fun h7 => ?_) (fun h7 => ?_)
  · have hq0 : ¬ (txt i).length = e - s := fun z => h7 (by rw [z])
    refine J_iconst (v := 0) dX5_isSpelt_14 (by decide) ?_
    refine J_istore (L' := [(4, _), (0, _), (1, _), (2, _), (3, _)]) dX5_isSpelt_15 (by decide) rfl ?_
    refine J_iconst (v := 0) dX5_isSpelt_17 (by decide) ?_
    refine J_istore (L' := [(5, _), (4, _), (0, _), (1, _), (2, _), (3, _)]) dX5_isSpelt_18 (by decide) rfl ?_
    refine J_iload dX5_isSpelt_20 rfl ?_
    refine J_if_eq (tgt := 64) dX5_isSpelt_22 rfl (fun h22 => ?_) (fun h22 => ?_)
    · refine J_iload dX5_isSpelt_64 rfl ?_
      refine J_ireturn dX5_isSpelt_66 rfl rfl (by decide) (by decide) ?_
      exact ⟨by first | rw [xx_bf (fun z => hq0 z.1)] | (rw [xx_bf (fun z => by have z2 := z.2; rw [← hv, spF_s hpp, decide_eq_false h48] at z2; cases z2)]), rfl, rfl⟩
    · first | exact absurd h22 (by decide) | exact absurd (by decide) h22
  · have hq1 : (txt i).length = e - s := by rw [i_eq, i_n (by omega), i_n (by omega)] at h7; omega
    refine J_iconst (v := 1) dX5_isSpelt_10 (by decide) ?_
    refine J_goto (tgt := 15) dX5_isSpelt_11 rfl ?_
    refine J_istore (L' := [(4, _), (0, _), (1, _), (2, _), (3, _)]) dX5_isSpelt_15 (by decide) rfl ?_
    refine J_iconst (v := 0) dX5_isSpelt_17 (by decide) ?_
    refine J_istore (L' := [(5, _), (4, _), (0, _), (1, _), (2, _), (3, _)]) dX5_isSpelt_18 (by decide) rfl ?_
    have loop : ∀ p, p ≤ (txt i).length → ∀ (x : Int32) , (x = nI p) → (spF T len s i ((txt i).length - p) p = spF T len s i (txt i).length 0) → xx_J G l mX5_isSpelt 4 91 0 0 (xx_ro (some (.int (xx_b (spelt T len s e i)))) A n) 20 [(5, .int x), (4, .int 1), (0, .ref b), (1, .ref (41 + i)), (2, .int x1), (3, .int x2)] [] A n 0 0 := by
      refine xx_dn ?_ ?_
      · intro x   hx hv
        have ex : x.toInt = ((txt i).length : Int) := by rw [hx]; exact i_n (by omega)
        have ed : (nI (txt i).length).toInt = ((txt i).length : Int) := i_n (by omega)
        refine J_iload dX5_isSpelt_20 rfl ?_
        refine J_if_eq (tgt := 64) dX5_isSpelt_22 rfl (fun h22 => ?_) (fun h22 => ?_)
        · first | exact absurd h22 (by decide) | exact absurd (by decide) h22
        · refine J_iload dX5_isSpelt_25 rfl ?_
          refine J_aload_n dX5_isSpelt_27 rfl rfl ?_
          refine J_callVrS (As := []) dX5_isSpelt_28 ml_X5_96 cal_J0_length_8abf5 im_J0_length_8abf5 se_J0_length_8abf5 (by omega) (so_tx hi) rfl rfl (Nat.le_of_ble_eq_true rfl) ⟨by decide, by decide⟩ ⟨by decide, by decide⟩ (c_J0_length_8abf5 hst hi) ?_
          refine J_icmp_ge (tgt := 64) dX5_isSpelt_31 rfl (fun h31 => ?_) (fun h31 => ?_)
          · refine J_iload dX5_isSpelt_64 rfl ?_
            refine J_ireturn dX5_isSpelt_66 rfl rfl (by decide) (by decide) ?_
            exact ⟨by rw [xx_bt ⟨hq1, by rw [← hv, Nat.sub_self]; rfl⟩], rfl, rfl⟩
          · first | (exfalso; simp only [i_lt, i_le, i_eq, i_0, i_1, i_2, i_3, i_4, i_5, i_6, i_8, i_9, i_10, i_12, i_16, i_20, i_m1, i_400, i_2000] at h31; omega) | (exfalso; simp only [s_up, a_up, va_up, i_lt, i_le, i_eq, i_0, i_1, i_2, i_3, i_4, i_5, i_6, i_8, i_9, i_10, i_12, i_16, i_20, i_m1, i_400, i_2000, ↓reduceIte, Nat.reduceEqDiff] at h31; omega)
      · intro p hip ih x   hx hv
        have hpp := hip
        have ex : x.toInt = p := by rw [hx]; exact i_n (by omega)
        have ed : (nI (txt i).length).toInt = ((txt i).length : Int) := i_n (by omega)
        refine J_iload dX5_isSpelt_20 rfl ?_
        refine J_if_eq (tgt := 64) dX5_isSpelt_22 rfl (fun h22 => ?_) (fun h22 => ?_)
        · first | exact absurd h22 (by decide) | exact absurd (by decide) h22
        · refine J_iload dX5_isSpelt_25 rfl ?_
          refine J_aload_n dX5_isSpelt_27 rfl rfl ?_
          refine J_callVrS (As := []) dX5_isSpelt_28 ml_X5_96 cal_J0_length_8abf5 im_J0_length_8abf5 se_J0_length_8abf5 (by omega) (so_tx hi) rfl rfl (Nat.le_of_ble_eq_true rfl) ⟨by decide, by decide⟩ ⟨by decide, by decide⟩ (c_J0_length_8abf5 hst hi) ?_
          refine J_icmp_ge (tgt := 64) dX5_isSpelt_31 rfl (fun h31 => ?_) (fun h31 => ?_)
          · first | (exfalso; simp only [i_lt, i_le, i_eq, i_0, i_1, i_2, i_3, i_4, i_5, i_6, i_8, i_9, i_10, i_12, i_16, i_20, i_m1, i_400, i_2000] at h31; omega) | (exfalso; simp only [s_up, a_up, va_up, i_lt, i_le, i_eq, i_0, i_1, i_2, i_3, i_4, i_5, i_6, i_8, i_9, i_10, i_12, i_16, i_20, i_m1, i_400, i_2000, ↓reduceIte, Nat.reduceEqDiff] at h31; omega)
          · refine J_aload_n dX5_isSpelt_34 rfl rfl ?_
            refine J_iload_n dX5_isSpelt_35 rfl rfl ?_
            refine J_iload dX5_isSpelt_36 rfl ?_
            refine J_iadd dX5_isSpelt_38 ?_
            refine J_callVr (As := [_]) dX5_isSpelt_39 ml_X5_60 cal_X5_byteAt im_X5_byteAt se_X5_byteAt (hT.at 0 rfl) rfl rfl rfl (Nat.le_of_ble_eq_true rfl) ⟨by decide, by decide⟩ ⟨by decide, by decide⟩ (c_X5_byteAt hst hT hlen h20 (by rw [hx1, hx, nI_add]) (by omega)) ?_
            refine J_aload_n dX5_isSpelt_42 rfl rfl ?_
            refine J_iload dX5_isSpelt_43 rfl ?_
            refine J_callVrS (As := [_]) dX5_isSpelt_45 ml_X5_101 cal_J0_charAt_5068e im_J0_charAt_5068e se_J0_charAt_5068e (by omega) (so_tx hi) rfl rfl (Nat.le_of_ble_eq_true rfl) ⟨by decide, by decide⟩ ⟨by decide, by decide⟩ (c_J0_charAt_5068e hst hi hx hpp) ?_
            refine J_icmp_ne (tgt := 55) dX5_isSpelt_48 rfl (fun h48 => ?_) (fun h48 => ?_)
            · refine J_iconst (v := 0) dX5_isSpelt_55 (by decide) ?_
              refine J_istore (L' := [(4, _), (5, _), (0, _), (1, _), (2, _), (3, _)]) dX5_isSpelt_56 (by decide) rfl ?_
              refine J_iinc (v := _ + 1) (L' := [(5, _), (4, _), (0, _), (1, _), (2, _), (3, _)]) dX5_isSpelt_58 rfl rfl (by decide) rfl ?_
              refine J_goto (tgt := 20) dX5_isSpelt_61 rfl ?_
              refine J_iload dX5_isSpelt_20 rfl ?_
              refine J_if_eq (tgt := 64) dX5_isSpelt_22 rfl (fun h22 => ?_) (fun h22 => ?_)
              · refine J_iload dX5_isSpelt_64 rfl ?_
                refine J_ireturn dX5_isSpelt_66 rfl rfl (by decide) (by decide) ?_
                exact ⟨by first | rw [xx_bf (fun z => hq0 z.1)] | (rw [xx_bf (fun z => by have z2 := z.2; rw [← hv, spF_s hpp, decide_eq_false h48] at z2; cases z2)]), rfl, rfl⟩
              · first | exact absurd h22 (by decide) | exact absurd (by decide) h22
            · refine J_iconst (v := 1) dX5_isSpelt_51 (by decide) ?_
              refine J_goto (tgt := 56) dX5_isSpelt_52 rfl ?_
              refine J_istore (L' := [(4, _), (5, _), (0, _), (1, _), (2, _), (3, _)]) dX5_isSpelt_56 (by decide) rfl ?_
              refine J_iinc (v := _ + 1) (L' := [(5, _), (4, _), (0, _), (1, _), (2, _), (3, _)]) dX5_isSpelt_58 rfl rfl (by decide) rfl ?_
              refine J_goto (tgt := 20) dX5_isSpelt_61 rfl ?_
              refine xx_J.pick [0, 1, 2, 3, 4, 5] rfl ?_
              exact ih _  (by rw [hx]; exact nI_1 p) (by rw [← hv, spF_s hpp, decide_eq_true h48, Bool.true_and])
    refine xx_J.pick [0, 1, 2, 3, 4, 5] rfl ?_
    exact loop 0 (by omega) _  rfl rfl
theorem J_getsN {M : xx_M} {fr lo mc ms : Nat} {Post : xx_Q} {pc : Nat} {L : List (Nat × Value)} {S : List Value} {k j idx : Nat} {C nm ds host : String} {v : Value} (hd : decode M.2.2.1 pc = .ok (.getstatic idx, 3)) (hq : (C, nm, ds, v) ∈ xx_st) (hvv : xx_vw 200 v) (hl : Cond.fieldLinkNest M.1 idx C nm ds host ∈ xx_N) (kk : xx_J G l M fr lo mc ms Post (pc + 3) L (v :: S) A n k j) : xx_J G l M fr lo mc ms Post pc L S A n k j := by
  intro p e s m args below meth c ad0 n0 F ad H locs ls ⟨a1, a2, a3, a4, a5, a6, a7⟩
  have hK := F.2.2.2.2.2.2.2.2.2.2.1
  have hZ : va_Z C nm ds (xx_v G.2.2.2 v) (xx_A G) s s.heap := hK.2.2.2.1 _ hq
  have e9 : xx_v G.2.2.2 v = xx_v ad v := xx_v_ext (n := 200) (fun q h => (a3.2.1 q h).symm) hvv
  rw [e9] at hZ
  exact va_getsN F.1 F.2.1 hZ a4 F.2.2.2.2.2.2.1 (va_Nw.use rfl (hK.2.1 _ hl)) (fun _ h => h) hd (kk p e s m args below meth c ad0 n0 F ad H locs ls ⟨a1, a2, a3, a4, a5, xx_c (xx_vw_le a3.1 hvv) a6, a7⟩)
/-- the first sign from i on that the bytes spell; dflt if there is none -/
def swtF (T : xS) (len s e dflt : Nat) : Nat → Nat → Nat
  | 0, _ => dflt
  | d + 1, i => if spelt T len s e (20 + i) then i else swtF T len s e dflt d (i + 1)
theorem swtF_s {T : xS} {len s e dflt i : Nat} (h : i < 39) : swtF T len s e dflt (39 - i) i = if spelt T len s e (20 + i) then i else swtF T len s e dflt (39 - (i + 1)) (i + 1) := by
  rw [show 39 - i = (39 - (i + 1)) + 1 by omega]
  rfl
theorem swtF_lt {T : xS} {len s e dflt : Nat} (hd : dflt < 39) : ∀ d i, i + d ≤ 39 → swtF T len s e dflt d i < 39 := by
  intro d
  induction d with
  | zero => intro i _; exact hd
  | succ d ih =>
    intro i h
    simp only [swtF]
    split
    · omega
    · exact ih (i + 1) (by omega)
theorem st_all : ("BeltRounds$Sign", "ALL", "[LBeltRounds$Sign;", Value.ref 39) ∈ xx_st := List.mem_append_right _ (List.mem_cons_self ..)
theorem sa_all : (39, FieldType.object "BeltRounds$Sign", 39, fun j => Value.ref j) ∈ xx_sa := List.mem_cons_self ..
theorem sf_txt {i : Nat} (hi : i < 39) : (i, "BeltRounds$Sign", "text", "Ljava/lang/String;", Value.ref (41 + (20 + i))) ∈ xx_sf := List.mem_append_left _ (List.mem_map.mpr ⟨i, List.mem_range.mpr hi, by rw [show 61 + i = 41 + (20 + i) by omega]⟩)
theorem c_X5_signWithText (hst : l.stackTraces = false) (hT : xx_w b (layT sg b T) A) {len : Nat} (hlen : T.1 1 = nI len) (h20 : len ≤ 2000) {s e : Nat} {x1 x2 : Int32} (hx1 : x1 = nI s) (hx2 : x2 = nI e) (hse : s ≤ e) (hel : e ≤ len) {dflt : Nat} (hd : dflt < 39) : xx_C G l yX5_signWithText mX5_signWithText 5 116 0 0 [.ref b, .int x1, .int x2, .ref dflt] A n (xx_ro (some (.ref (swtF T len s e dflt 39 0))) A n) := by
  refine J_C hst (by decide +kernel) rfl rfl rfl (Nat.le_of_ble_eq_true rfl) ?_
  show xx_J _ _ _ _ _ _ _ _ 0 [(0, _), (1, _), (2, _), (3, _)] [] _ _ _ _
  refine J_iconst (v := 0) dX5_signWithText_0 (by decide) ?_
  refine J_istore (L' := [(4, _), (0, _), (1, _), (2, _), (3, _)]) dX5_signWithText_1 (by decide) rfl ?_
  have loop : ∀ i, i ≤ 39 → ∀ (x : Int32), x = nI i → swtF T len s e dflt (39 - i) i = swtF T len s e dflt 39 0 → xx_J G l mX5_signWithText 5 116 0 0 (xx_ro (some (.ref (swtF T len s e dflt 39 0))) A n) 3 [(4, .int x), (0, .ref b), (1, .int x1), (2, .int x2), (3, .ref dflt)] [] A n 0 0 := by
    refine xx_dn ?_ ?_
    · intro x hx hv
      refine J_iload dX5_signWithText_3 rfl ?_
      refine J_getsN (v := .ref 39) dX5_signWithText_5 st_all (show (39 : Nat) < 200 by decide) sl_X5_85 ?_
      refine J_alenS dX5_signWithText_8 sa_all (by decide) rfl ?_
      refine J_icmp_ge (tgt := 43) dX5_signWithText_9 rfl (fun h => ?_) (fun h => absurd (by rw [hx]; exact nI_le (Nat.le_refl 39) (by omega)) h)
      refine J_aload_n dX5_signWithText_43 rfl rfl ?_
      refine J_areturn dX5_signWithText_44 rfl (by decide) (by decide) ?_
      exact ⟨by rw [← hv, Nat.sub_self]; rfl, rfl, rfl⟩
    · intro i hii ih x hx hv
      refine J_iload dX5_signWithText_3 rfl ?_
      refine J_getsN (v := .ref 39) dX5_signWithText_5 st_all (show (39 : Nat) < 200 by decide) sl_X5_85 ?_
      refine J_alenS dX5_signWithText_8 sa_all (by decide) rfl ?_
      refine J_icmp_ge (tgt := 43) dX5_signWithText_9 rfl (fun h => absurd (by rw [hx] at h; exact h) (nI_ge hii (by omega))) (fun h => ?_)
      refine J_getsN (v := .ref 39) dX5_signWithText_12 st_all (show (39 : Nat) < 200 by decide) sl_X5_85 ?_
      refine J_iload dX5_signWithText_15 rfl ?_
      refine J_aldS (v := .ref i) dX5_signWithText_17 sa_all (by decide) (by rw [hx]; exact vp_in_nI hii (by omega)) (by rw [hx, nI_clamp (by omega)]) (show i < 200 by omega) ?_
      refine J_astore (L' := [(5, _), (4, _), (0, _), (1, _), (2, _), (3, _)]) dX5_signWithText_18 (by decide) rfl ?_
      refine J_aload_n dX5_signWithText_20 rfl rfl ?_
      refine J_aload dX5_signWithText_21 rfl ?_
      refine J_getS dX5_signWithText_23 (sf_txt hii) (by omega) (show 41 + (20 + i) < 200 by omega) (Or.inr ⟨_, sl_X5_88⟩) ?_
      refine J_iload_n dX5_signWithText_26 rfl rfl ?_
      refine J_iload_n dX5_signWithText_27 rfl rfl ?_
      refine J_callVr (As := [_, _, _]) dX5_signWithText_28 ml_X5_92 cal_X5_isSpelt im_X5_isSpelt se_X5_isSpelt (hT.at 0 rfl) rfl rfl rfl (Nat.le_of_ble_eq_true rfl) ⟨by decide, by decide⟩ ⟨by decide, by decide⟩ (c_X5_isSpelt hst hT hlen h20 (show 20 + i < 59 by omega) hx1 hx2 hse hel) ?_
      refine J_ifb_eq (tgt := 37) dX5_signWithText_31 rfl (fun h31 => ?_) (fun h31 => ?_)
      · refine J_iinc (v := _ + 1) (L' := [(4, _), (5, _), (0, _), (1, _), (2, _), (3, _)]) dX5_signWithText_37 rfl rfl (by decide) rfl ?_
        refine J_goto (tgt := 3) dX5_signWithText_40 rfl ?_
        refine xx_J.pick [0, 2, 3, 4, 5] rfl ?_
        exact ih _ (by rw [hx]; exact nI_1 i) (by rw [← hv, swtF_s hii, if_neg h31])
      · refine J_aload dX5_signWithText_34 rfl ?_
        refine J_areturn dX5_signWithText_36 rfl (by decide) (by decide) ?_
        exact ⟨by rw [← hv, swtF_s hii, if_pos h31], rfl, rfl⟩
  exact loop 0 (by omega) _ rfl rfl
/-- what the token s .. e - 1 is -/
def sgF (T : xS) (len s e : Nat) : Nat := if s < len then (if isD (bat T len s) then (if e - s ≤ 6 then 36 else 38) else if isL (bat T len s) then (if e - s ≤ 10 then swtF T len s e 35 39 0 else 38) else swtF T len s e 38 39 0) else 37
theorem sgF_lt (T : xS) (len s e : Nat) : sgF T len s e < 39 := by
  unfold sgF
  (repeat' split) <;> first | omega | exact swtF_lt (by omega) _ _ (by omega)
theorem i_le6 {m : Nat} (h : m < 2 ^ 31) : nI m ≤ 6 ↔ m ≤ 6 := by rw [i_le, i_n h, i_6]; omega
theorem i_le10 {m : Nat} (h : m < 2 ^ 31) : nI m ≤ 10 ↔ m ≤ 10 := by rw [i_le, i_n h, i_10]; omega
theorem c_X5_signOf (hst : l.stackTraces = false) (hT : xx_w b (layT sg b T) A) {len : Nat} (hlen : T.1 1 = nI len) (h20 : len ≤ 2000) {s e : Nat} {x1 x2 : Int32} (hx1 : x1 = nI s) (hx2 : x2 = nI e) (hse : s ≤ e) (hel : e ≤ len) : xx_C G l yX5_signOf mX5_signOf 6 141 0 0 [.ref b, .int x1, .int x2] A n (xx_ro (some (.ref (sgF T len s e))) A n) := by
  have elen : (T.1 1).toInt = len := by rw [hlen]; exact i_n (by omega)
  have e2000 : (Int32.ofNat 2000).toInt = 2000 := rfl
  have ex : x1.toInt = s := by rw [hx1]; exact i_n (by omega)
  have hes : x2 - x1 = nI (e - s) := by rw [hx1, hx2, pk_sub hse]
  refine J_C hst (by decide +kernel) rfl rfl rfl (Nat.le_of_ble_eq_true rfl) ?_
  show xx_J _ _ _ _ _ _ _ _ 0 [(0, _), (1, _), (2, _)] [] _ _ _ _
  refine J_iload_n dX5_signOf_0 rfl rfl ?_
  refine J_aload_n dX5_signOf_1 rfl rfl ?_
  refine J_getf dX5_signOf_2 fl_X5_15 (hT.at 0 rfl) rfl ?_
  refine J_icmp_lt (tgt := 12) dX5_signOf_5 rfl (fun h5 => ?_) (fun h5 => ?_)
  · have hsl : s < len := by simp only [i_lt, i_le, i_eq, i_0, i_1, i_2, i_3, i_4, i_5, i_6, i_8, i_9, i_10, i_12, i_16, i_20, i_m1] at h5; omega
    refine J_aload_n dX5_signOf_12 rfl rfl ?_
    refine J_iload_n dX5_signOf_13 rfl rfl ?_
    refine J_callVr (As := [_]) dX5_signOf_14 ml_X5_60 cal_X5_byteAt im_X5_byteAt se_X5_byteAt (hT.at 0 rfl) rfl rfl rfl (Nat.le_of_ble_eq_true rfl) ⟨by decide, by decide⟩ ⟨by decide, by decide⟩ (c_X5_byteAt hst hT hlen h20 hx1 (by omega)) ?_
    refine J_istore_n (L' := [(3, _), (0, _), (1, _), (2, _)]) dX5_signOf_17 rfl (by decide) rfl ?_
    refine J_iload_n dX5_signOf_18 rfl rfl ?_
    refine J_callSr (As := [_]) dX5_signOf_19 ml_X5_66 cal_X5_isDigit sm_X5_isDigit rfl rfl (Nat.le_of_ble_eq_true rfl) ⟨by decide, by decide⟩ ⟨by decide, by decide⟩ (c_X5_isDigit hst _) ?_
    refine J_ifb_eq (tgt := 43) dX5_signOf_22 rfl (fun h22 => ?_) (fun h22 => ?_)
    · refine J_iload_n dX5_signOf_43 rfl rfl ?_
      refine J_callSr (As := [_]) dX5_signOf_44 ml_X5_63 cal_X5_isLetter sm_X5_isLetter rfl rfl (Nat.le_of_ble_eq_true rfl) ⟨by decide, by decide⟩ ⟨by decide, by decide⟩ (c_X5_isLetter hst _) ?_
      refine J_ifb_ne (tgt := 60) dX5_signOf_47 rfl (fun h47 => ?_) (fun h47 => ?_)
      · refine J_iload_n dX5_signOf_60 rfl rfl ?_
        refine J_iload_n dX5_signOf_61 rfl rfl ?_
        refine J_isub dX5_signOf_62 ?_
        rw [hes]
        refine J_bipush (v := 10) dX5_signOf_63 (by decide) ?_
        refine J_icmp_le (tgt := 74) dX5_signOf_65 rfl (fun h65 => ?_) (fun h65 => ?_)
        · refine J_aload_n dX5_signOf_74 rfl rfl ?_
          refine J_iload_n dX5_signOf_75 rfl rfl ?_
          refine J_iload_n dX5_signOf_76 rfl rfl ?_
          refine J_gets (v := .ref 35) dX5_signOf_77 (gs_mem 35 (by decide)) (show (35 : Nat) < 200 by decide) sl_X5_82 ?_
          refine J_callVr (As := [_, _, _]) dX5_signOf_80 ml_X5_78 cal_X5_signWithText im_X5_signWithText se_X5_signWithText (hT.at 0 rfl) rfl rfl rfl (Nat.le_of_ble_eq_true rfl) ⟨by decide, by decide⟩ ⟨by decide, by decide⟩ (c_X5_signWithText hst hT hlen h20 hx1 hx2 hse hel (dflt := 35) (by decide)) ?_
          refine J_areturn dX5_signOf_83 rfl (by decide) (by decide) ?_
          refine ⟨congrArg (fun v => Sum.inl (some (Value.ref v))) ?_, rfl, rfl⟩
          unfold sgF
          first
            | (rw [if_neg hsl]; done)
            | (rw [if_pos hsl, if_pos h22, if_pos ((i_le6 (by omega)).mp h30)]; done)
            | (rw [if_pos hsl, if_pos h22, if_neg (fun z => h30 ((i_le6 (by omega)).mpr z))]; done)
            | (rw [if_pos hsl, if_neg h22, if_pos h47, if_pos ((i_le10 (by omega)).mp h65)]; done)
            | (rw [if_pos hsl, if_neg h22, if_pos h47, if_neg (fun z => h65 ((i_le10 (by omega)).mpr z))]; done)
            | (rw [if_pos hsl, if_neg h22, if_neg h47]; done)
        · refine J_gets (v := .ref 38) dX5_signOf_68 (gs_mem 38 (by decide)) (show (38 : Nat) < 200 by decide) sl_X5_50 ?_
          refine J_goto (tgt := 83) dX5_signOf_71 rfl ?_
          refine J_areturn dX5_signOf_83 rfl (by decide) (by decide) ?_
          refine ⟨congrArg (fun v => Sum.inl (some (Value.ref v))) ?_, rfl, rfl⟩
          unfold sgF
          first
            | (rw [if_neg hsl]; done)
            | (rw [if_pos hsl, if_pos h22, if_pos ((i_le6 (by omega)).mp h30)]; done)
            | (rw [if_pos hsl, if_pos h22, if_neg (fun z => h30 ((i_le6 (by omega)).mpr z))]; done)
            | (rw [if_pos hsl, if_neg h22, if_pos h47, if_pos ((i_le10 (by omega)).mp h65)]; done)
            | (rw [if_pos hsl, if_neg h22, if_pos h47, if_neg (fun z => h65 ((i_le10 (by omega)).mpr z))]; done)
            | (rw [if_pos hsl, if_neg h22, if_neg h47]; done)
      · refine J_aload_n dX5_signOf_50 rfl rfl ?_
        refine J_iload_n dX5_signOf_51 rfl rfl ?_
        refine J_iload_n dX5_signOf_52 rfl rfl ?_
        refine J_gets (v := .ref 38) dX5_signOf_53 (gs_mem 38 (by decide)) (show (38 : Nat) < 200 by decide) sl_X5_50 ?_
        refine J_callVr (As := [_, _, _]) dX5_signOf_56 ml_X5_78 cal_X5_signWithText im_X5_signWithText se_X5_signWithText (hT.at 0 rfl) rfl rfl rfl (Nat.le_of_ble_eq_true rfl) ⟨by decide, by decide⟩ ⟨by decide, by decide⟩ (c_X5_signWithText hst hT hlen h20 hx1 hx2 hse hel (dflt := 38) (by decide)) ?_
        refine J_areturn dX5_signOf_59 rfl (by decide) (by decide) ?_
        refine ⟨congrArg (fun v => Sum.inl (some (Value.ref v))) ?_, rfl, rfl⟩
        unfold sgF
        first
          | (rw [if_neg hsl]; done)
          | (rw [if_pos hsl, if_pos h22, if_pos ((i_le6 (by omega)).mp h30)]; done)
          | (rw [if_pos hsl, if_pos h22, if_neg (fun z => h30 ((i_le6 (by omega)).mpr z))]; done)
          | (rw [if_pos hsl, if_neg h22, if_pos h47, if_pos ((i_le10 (by omega)).mp h65)]; done)
          | (rw [if_pos hsl, if_neg h22, if_pos h47, if_neg (fun z => h65 ((i_le10 (by omega)).mpr z))]; done)
          | (rw [if_pos hsl, if_neg h22, if_neg h47]; done)
    · refine J_iload_n dX5_signOf_25 rfl rfl ?_
      refine J_iload_n dX5_signOf_26 rfl rfl ?_
      refine J_isub dX5_signOf_27 ?_
      rw [hes]
      refine J_bipush (v := 6) dX5_signOf_28 (by decide) ?_
      refine J_icmp_le (tgt := 39) dX5_signOf_30 rfl (fun h30 => ?_) (fun h30 => ?_)
      · refine J_gets (v := .ref 36) dX5_signOf_39 (gs_mem 36 (by decide)) (show (36 : Nat) < 200 by decide) sl_X5_57 ?_
        refine J_areturn dX5_signOf_42 rfl (by decide) (by decide) ?_
        refine ⟨congrArg (fun v => Sum.inl (some (Value.ref v))) ?_, rfl, rfl⟩
        unfold sgF
        first
          | (rw [if_neg hsl]; done)
          | (rw [if_pos hsl, if_pos h22, if_pos ((i_le6 (by omega)).mp h30)]; done)
          | (rw [if_pos hsl, if_pos h22, if_neg (fun z => h30 ((i_le6 (by omega)).mpr z))]; done)
          | (rw [if_pos hsl, if_neg h22, if_pos h47, if_pos ((i_le10 (by omega)).mp h65)]; done)
          | (rw [if_pos hsl, if_neg h22, if_pos h47, if_neg (fun z => h65 ((i_le10 (by omega)).mpr z))]; done)
          | (rw [if_pos hsl, if_neg h22, if_neg h47]; done)
      · refine J_gets (v := .ref 38) dX5_signOf_33 (gs_mem 38 (by decide)) (show (38 : Nat) < 200 by decide) sl_X5_50 ?_
        refine J_goto (tgt := 42) dX5_signOf_36 rfl ?_
        refine J_areturn dX5_signOf_42 rfl (by decide) (by decide) ?_
        refine ⟨congrArg (fun v => Sum.inl (some (Value.ref v))) ?_, rfl, rfl⟩
        unfold sgF
        first
          | (rw [if_neg hsl]; done)
          | (rw [if_pos hsl, if_pos h22, if_pos ((i_le6 (by omega)).mp h30)]; done)
          | (rw [if_pos hsl, if_pos h22, if_neg (fun z => h30 ((i_le6 (by omega)).mpr z))]; done)
          | (rw [if_pos hsl, if_neg h22, if_pos h47, if_pos ((i_le10 (by omega)).mp h65)]; done)
          | (rw [if_pos hsl, if_neg h22, if_pos h47, if_neg (fun z => h65 ((i_le10 (by omega)).mpr z))]; done)
          | (rw [if_pos hsl, if_neg h22, if_neg h47]; done)
  · have hsl : ¬ s < len := by simp only [i_lt, i_le, i_eq, i_0, i_1, i_2, i_3, i_4, i_5, i_6, i_8, i_9, i_10, i_12, i_16, i_20, i_m1] at h5; omega
    refine J_gets (v := .ref 37) dX5_signOf_8 (gs_mem 37 (by decide)) (show (37 : Nat) < 200 by decide) sl_X5_46 ?_
    refine J_areturn dX5_signOf_11 rfl (by decide) (by decide) ?_
    refine ⟨congrArg (fun v => Sum.inl (some (Value.ref v))) ?_, rfl, rfl⟩
    unfold sgF
    first
      | (rw [if_neg hsl]; done)
      | (rw [if_pos hsl, if_pos h22, if_pos ((i_le6 (by omega)).mp h30)]; done)
      | (rw [if_pos hsl, if_pos h22, if_neg (fun z => h30 ((i_le6 (by omega)).mpr z))]; done)
      | (rw [if_pos hsl, if_neg h22, if_pos h47, if_pos ((i_le10 (by omega)).mp h65)]; done)
      | (rw [if_pos hsl, if_neg h22, if_pos h47, if_neg (fun z => h65 ((i_le10 (by omega)).mpr z))]; done)
      | (rw [if_pos hsl, if_neg h22, if_neg h47]; done)
variable {T1 : xS} {len : Nat}
theorem bat_c (h : T1.2 1 = T.2 1) (i : Nat) : bat T1 len i = bat T len i := by unfold bat; rw [h]
theorem bbl_c (h : T1.2 1 = T.2 1) : ∀ d i, bbl T1 len d i = bbl T len d i := by
  intro d
  induction d with
  | zero => intro i; rfl
  | succ d ih => intro i; simp only [bbl, bat_c h, ih]
theorem eosF_c (h : T1.2 1 = T.2 1) (i : Nat) : eosF T1 len i = eosF T len i := by unfold eosF; simp only [bat_c h]
theorem etl_c (h : T1.2 1 = T.2 1) (lt : Prop) [Decidable lt] : ∀ d i, etl T1 len lt d i = etl T len lt d i := by
  intro d
  induction d with
  | zero => intro i; rfl
  | succ d ih => intro i; simp only [etl, bat_c h, ih]
theorem eotF_c (h : T1.2 1 = T.2 1) (s : Nat) : eotF T1 len s = eotF T len s := by unfold eotF; simp only [bat_c h, eosF_c h, etl_c h]
theorem spF_c (h : T1.2 1 = T.2 1) (s i : Nat) : ∀ d p, spF T1 len s i d p = spF T len s i d p := by
  intro d
  induction d with
  | zero => intro p; rfl
  | succ d ih => intro p; simp only [spF, bat_c h, ih]
theorem swtF_c (h : T1.2 1 = T.2 1) (s e q : Nat) : ∀ d i, swtF T1 len s e q d i = swtF T len s e q d i := by
  intro d
  induction d with
  | zero => intro i; rfl
  | succ d ih => intro i; simp only [swtF, spelt, spF_c h, ih]
theorem sgF_c (h : T1.2 1 = T.2 1) (s e : Nat) : sgF T1 len s e = sgF T len s e := by unfold sgF; simp only [bat_c h, swtF_c h]
theorem nmF_c (h : T1.2 1 = T.2 1) : ∀ d i acc, nmF T1 len d i acc = nmF T len d i acc := by
  intro d
  induction d with
  | zero => intro i acc; rfl
  | succ d ih => intro i acc; simp only [nmF, bat_c h, ih]
theorem smF_c (h : T1.2 1 = T.2 1) : ∀ d i q, smF T1 len d i q = smF T len d i q := by
  intro d
  induction d with
  | zero => intro i q; rfl
  | succ d ih => intro i q; simp only [smF, bat_c h, ih]
/-- where token i is looked for, begins, ends, what it is -/
def scA (T : xS) (len : Nat) : Nat → Nat
  | 0 => 0
  | i + 1 => eotF T len (bbl T len (len - scA T len i) (scA T len i))
def scS (T : xS) (len i : Nat) : Nat := bbl T len (len - scA T len i) (scA T len i)
def scE (T : xS) (len i : Nat) : Nat := eotF T len (scS T len i)
def scG (T : xS) (len i : Nat) : Nat := if i = 400 ∧ ¬ sgF T len (scS T len i) (scE T len i) = 37 then 38 else sgF T len (scS T len i) (scE T len i)
theorem bbl_le {i : Nat} (h : i ≤ len) : bbl T len (len - i) i ≤ len ∧ i ≤ bbl T len (len - i) i := by
  have key : ∀ d i, i + d = len → bbl T len d i ≤ len ∧ i ≤ bbl T len d i := by
    intro d
    induction d with
    | zero => intro i h; exact ⟨by simp only [bbl]; omega, Nat.le_refl _⟩
    | succ d ih =>
      intro i h
      simp only [bbl]
      have := ih (i + 1) (by omega)
      split
      · omega
      · omega
  exact key _ _ (by omega)
theorem etl_le (lt : Prop) [Decidable lt] : ∀ d i, i + d = len → etl T len lt d i ≤ len ∧ i ≤ etl T len lt d i := by
  intro d
  induction d with
  | zero => intro i h; exact ⟨by simp only [etl]; omega, Nat.le_refl _⟩
  | succ d ih =>
    intro i h
    simp only [etl]
    have := ih (i + 1) (by omega)
    split
    · omega
    · omega
theorem eotF_le {s : Nat} (h : s ≤ len) : eotF T len s ≤ len ∧ s ≤ eotF T len s := by
  unfold eotF
  split
  · rename_i h2
    have h3 := bat_in h2
    have := etl_le (T := T) (len := len) (isL (bat T len s)) (len - (s + 1)) (s + 1) (by omega)
    omega
  · unfold eosF
    split <;> omega
theorem scA_le : ∀ i, scA T len i ≤ len := by
  intro i
  induction i with
  | zero => exact Nat.zero_le _
  | succ i ih => exact (eotF_le (bbl_le ih).1).1
theorem scS_le (i : Nat) : scS T len i ≤ len := (bbl_le (scA_le i)).1
theorem scE_le (i : Nat) : scE T len i ≤ len ∧ scS T len i ≤ scE T len i := eotF_le (scS_le i)
theorem scG_lt (i : Nat) : scG T len i < 39 := by
  unfold scG
  split
  · omega
  · exact sgF_lt _ _ _ _
theorem scG_400 : scG T len 400 = 37 ∨ scG T len 400 = 38 := by
  unfold scG
  by_cases h : sgF T len (scS T len 400) (scE T len 400) = 37
  · rw [if_neg (fun z => z.2 h)]; exact Or.inl h
  · rw [if_pos ⟨rfl, h⟩]; exact Or.inr rfl
/-- what scan lays of the tokens below i -/
def scn (T : xS) (len i : Nat) (sg : Nat → Option Nat) (X : xS) : Prop := X.1 5 = nI i ∧ X.1 1 = T.1 1 ∧ X.2 1 = T.2 1 ∧ ∀ q, q < i → sg q = some (scG T len q) ∧ X.2 3 q = nI (scS T len q) ∧ X.2 4 q = nI (scE T len q)
end XSC
