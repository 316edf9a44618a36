/-! TAPE: isSpelt, signWithText, signOf, scan -/
section XSC
variable {G : xx_G} {l : Launch} {A : xx_H} {n : Nat} {b : Nat} {T : xS} {sg : Nat → Option Nat}
/-- do the bytes from s on spell the text i, d of them from p on -/
def spF (T : xS) (len s i : Nat) : Nat → Nat → Bool
  | 0, _ => true
  | d + 1, p => decide (bat T len (s + p) = (txt i).getD p 0) && spF T len s i d (p + 1)
theorem spF_s {T : xS} {len s i d p : Nat} (h : p < d) : spF T len s i (d - p) p = (decide (bat T len (s + p) = (txt i).getD p 0) && spF T len s i (d - (p + 1)) (p + 1)) := by
  rw [show d - p = (d - (p + 1)) + 1 by omega]
  rfl
abbrev spelt (T : xS) (len s e i : Nat) : Prop := (txt i).length = e - s ∧ spF T len s i (txt i).length 0 = true
set_option maxHeartbeats 4000000 in
theorem c_X5_isSpelt (hst : l.stackTraces = false) (hT : xx_w b (layT sg b T) A) {len : Nat} (hlen : T.1 1 = nI len) (h20 : len ≤ 2000) {i : Nat} (hi : i < 59) {s e : Nat} {x1 x2 : Int32} (hx1 : x1 = nI s) (hx2 : x2 = nI e) (hse : s ≤ e) (hel : e ≤ len) : xx_C G l yX5_isSpelt mX5_isSpelt 4 91 0 0 [.ref b, .ref (41 + i), .int x1, .int x2] A n (xx_ro (some (.int (xx_b (spelt T len s e i)))) A n) := by
  have htl := tx_len i (by omega)
  have hes : x2 - x1 = nI (e - s) := by rw [hx1, hx2, pk_sub hse]
  refine J_C hst (by decide +kernel) rfl rfl rfl (Nat.le_of_ble_eq_true rfl) ?_
  show xx_J _ _ _ _ _ _ _ _ 0 [(0, _), (1, _), (2, _), (3, _)] [] _ _ _ _
  refine J_aload_n dX5_isSpelt_0 rfl rfl ?_
  refine J_callVrS (As := []) dX5_isSpelt_1 ml_X5_96 cal_J0_length_8abf5 im_J0_length_8abf5 se_J0_length_8abf5 (by omega) (so_tx' hi) rfl rfl (Nat.le_of_ble_eq_true rfl) ⟨by decide, by decide⟩ ⟨by decide, by decide⟩ (c_J0_length_8abf5 hst hi) ?_
  refine J_iload_n dX5_isSpelt_4 rfl rfl ?_
  refine J_iload_n dX5_isSpelt_5 rfl rfl ?_
  refine J_isub dX5_isSpelt_6 ?_
  rw [hes]
  refine J_icmp_ne (tgt := 14) dX5_isSpelt_7 rfl (fun h7 => ?_) (fun h7 => ?_)
  · have hq0 : ¬ (txt i).length = e - s := fun z => h7 (by rw [z])
    refine J_iconst (v := 0) dX5_isSpelt_14 (by decide) ?_
    refine J_istore (L' := [(4, _), (0, _), (1, _), (2, _), (3, _)]) dX5_isSpelt_15 (by decide) rfl ?_
    refine J_iconst (v := 0) dX5_isSpelt_17 (by decide) ?_
    refine J_istore (L' := [(5, _), (4, _), (0, _), (1, _), (2, _), (3, _)]) dX5_isSpelt_18 (by decide) rfl ?_
    refine J_iload dX5_isSpelt_20 rfl ?_
    refine J_if_eq (tgt := 64) dX5_isSpelt_22 rfl (fun h22 => ?_) (fun h22 => ?_)
    · refine J_iload dX5_isSpelt_64 rfl ?_
      refine J_ireturn dX5_isSpelt_66 rfl rfl (by decide) (by decide) ?_
      exact ⟨by first | rw [xx_bf (fun z => hq0 z.1)] | (rw [xx_bf (fun z => by have z2 := z.2; rw [← hv, spF_s hpp, decide_eq_false h48] at z2; cases z2)]), rfl, rfl⟩
    · first | exact absurd h22 (by decide) | exact absurd (by decide) h22
  · have hq1 : (txt i).length = e - s := by rw [i_eq, i_n (by omega), i_n (by omega)] at h7; omega
    refine J_iconst (v := 1) dX5_isSpelt_10 (by decide) ?_
    refine J_goto (tgt := 15) dX5_isSpelt_11 rfl ?_
    refine J_istore (L' := [(4, _), (0, _), (1, _), (2, _), (3, _)]) dX5_isSpelt_15 (by decide) rfl ?_
    refine J_iconst (v := 0) dX5_isSpelt_17 (by decide) ?_
    refine J_istore (L' := [(5, _), (4, _), (0, _), (1, _), (2, _), (3, _)]) dX5_isSpelt_18 (by decide) rfl ?_
    have loop : ∀ p, p ≤ (txt i).length → ∀ (x : Int32) , (x = nI p) → (spF T len s i ((txt i).length - p) p = spF T len s i (txt i).length 0) → xx_J G l mX5_isSpelt 4 91 0 0 (xx_ro (some (.int (xx_b (spelt T len s e i)))) A n) 20 [(5, .int x), (4, .int 1), (0, .ref b), (1, .ref (41 + i)), (2, .int x1), (3, .int x2)] [] A n 0 0 := by
      refine xx_dn ?_ ?_
      · intro x   hx hv
        have ex : x.toInt = ((txt i).length : Int) := by rw [hx]; exact i_n (by omega)
        have ed : (nI (txt i).length).toInt = ((txt i).length : Int) := i_n (by omega)
        refine J_iload dX5_isSpelt_20 rfl ?_
        refine J_if_eq (tgt := 64) dX5_isSpelt_22 rfl (fun h22 => ?_) (fun h22 => ?_)
        · first | exact absurd h22 (by decide) | exact absurd (by decide) h22
        · refine J_iload dX5_isSpelt_25 rfl ?_
          refine J_aload_n dX5_isSpelt_27 rfl rfl ?_
          refine J_callVrS (As := []) dX5_isSpelt_28 ml_X5_96 cal_J0_length_8abf5 im_J0_length_8abf5 se_J0_length_8abf5 (by omega) (so_tx' hi) rfl rfl (Nat.le_of_ble_eq_true rfl) ⟨by decide, by decide⟩ ⟨by decide, by decide⟩ (c_J0_length_8abf5 hst hi) ?_
          refine J_icmp_ge (tgt := 64) dX5_isSpelt_31 rfl (fun h31 => ?_) (fun h31 => ?_)
          · refine J_iload dX5_isSpelt_64 rfl ?_
            refine J_ireturn dX5_isSpelt_66 rfl rfl (by decide) (by decide) ?_
            exact ⟨by rw [xx_bt ⟨hq1, by rw [← hv, Nat.sub_self]; rfl⟩], rfl, rfl⟩
          · first | (exfalso; simp only [i_lt, i_le, i_eq, i_0, i_1, i_2, i_3, i_4, i_5, i_6, i_8, i_9, i_10, i_12, i_16, i_20, i_m1, i_400, i_2000] at h31; omega) | (exfalso; simp only [s_up, a_up, va_up, i_lt, i_le, i_eq, i_0, i_1, i_2, i_3, i_4, i_5, i_6, i_8, i_9, i_10, i_12, i_16, i_20, i_m1, i_400, i_2000, ↓reduceIte, Nat.reduceEqDiff] at h31; omega)
      · intro p hip ih x   hx hv
        have hpp := hip
        have ex : x.toInt = p := by rw [hx]; exact i_n (by omega)
        have ed : (nI (txt i).length).toInt = ((txt i).length : Int) := i_n (by omega)
        refine J_iload dX5_isSpelt_20 rfl ?_
        refine J_if_eq (tgt := 64) dX5_isSpelt_22 rfl (fun h22 => ?_) (fun h22 => ?_)
        · first | exact absurd h22 (by decide) | exact absurd (by decide) h22
        · refine J_iload dX5_isSpelt_25 rfl ?_
          refine J_aload_n dX5_isSpelt_27 rfl rfl ?_
          refine J_callVrS (As := []) dX5_isSpelt_28 ml_X5_96 cal_J0_length_8abf5 im_J0_length_8abf5 se_J0_length_8abf5 (by omega) (so_tx' hi) rfl rfl (Nat.le_of_ble_eq_true rfl) ⟨by decide, by decide⟩ ⟨by decide, by decide⟩ (c_J0_length_8abf5 hst hi) ?_
          refine J_icmp_ge (tgt := 64) dX5_isSpelt_31 rfl (fun h31 => ?_) (fun h31 => ?_)
          · first | (exfalso; simp only [i_lt, i_le, i_eq, i_0, i_1, i_2, i_3, i_4, i_5, i_6, i_8, i_9, i_10, i_12, i_16, i_20, i_m1, i_400, i_2000] at h31; omega) | (exfalso; simp only [s_up, a_up, va_up, i_lt, i_le, i_eq, i_0, i_1, i_2, i_3, i_4, i_5, i_6, i_8, i_9, i_10, i_12, i_16, i_20, i_m1, i_400, i_2000, ↓reduceIte, Nat.reduceEqDiff] at h31; omega)
          · refine J_aload_n dX5_isSpelt_34 rfl rfl ?_
            refine J_iload_n dX5_isSpelt_35 rfl rfl ?_
            refine J_iload dX5_isSpelt_36 rfl ?_
            refine J_iadd dX5_isSpelt_38 ?_
            refine J_callVr (As := [_]) dX5_isSpelt_39 ml_X5_60 cal_X5_byteAt im_X5_byteAt se_X5_byteAt (hT.at 0 rfl) rfl rfl rfl (Nat.le_of_ble_eq_true rfl) ⟨by decide, by decide⟩ ⟨by decide, by decide⟩ (c_X5_byteAt hst hT hlen h20 (by rw [hx1, hx, nI_add]) (by omega)) ?_
            refine J_aload_n dX5_isSpelt_42 rfl rfl ?_
            refine J_iload dX5_isSpelt_43 rfl ?_
            refine J_callVrS (As := [_]) dX5_isSpelt_45 ml_X5_101 cal_J0_charAt_5068e im_J0_charAt_5068e se_J0_charAt_5068e (by omega) (so_tx' hi) rfl rfl (Nat.le_of_ble_eq_true rfl) ⟨by decide, by decide⟩ ⟨by decide, by decide⟩ (c_J0_charAt_5068e hst hi hx hpp) ?_
            refine J_icmp_ne (tgt := 55) dX5_isSpelt_48 rfl (fun h48 => ?_) (fun h48 => ?_)
            · refine J_iconst (v := 0) dX5_isSpelt_55 (by decide) ?_
              refine J_istore (L' := [(4, _), (5, _), (0, _), (1, _), (2, _), (3, _)]) dX5_isSpelt_56 (by decide) rfl ?_
              refine J_iinc (v := _ + 1) (L' := [(5, _), (4, _), (0, _), (1, _), (2, _), (3, _)]) dX5_isSpelt_58 rfl rfl (by decide) rfl ?_
              refine J_goto (tgt := 20) dX5_isSpelt_61 rfl ?_
              refine J_iload dX5_isSpelt_20 rfl ?_
              refine J_if_eq (tgt := 64) dX5_isSpelt_22 rfl (fun h22 => ?_) (fun h22 => ?_)
              · refine J_iload dX5_isSpelt_64 rfl ?_
                refine J_ireturn dX5_isSpelt_66 rfl rfl (by decide) (by decide) ?_
                exact ⟨by first | rw [xx_bf (fun z => hq0 z.1)] | (rw [xx_bf (fun z => by have z2 := z.2; rw [← hv, spF_s hpp, decide_eq_false h48] at z2; cases z2)]), rfl, rfl⟩
              · first | exact absurd h22 (by decide) | exact absurd (by decide) h22
            · refine J_iconst (v := 1) dX5_isSpelt_51 (by decide) ?_
              refine J_goto (tgt := 56) dX5_isSpelt_52 rfl ?_
              refine J_istore (L' := [(4, _), (5, _), (0, _), (1, _), (2, _), (3, _)]) dX5_isSpelt_56 (by decide) rfl ?_
              refine J_iinc (v := _ + 1) (L' := [(5, _), (4, _), (0, _), (1, _), (2, _), (3, _)]) dX5_isSpelt_58 rfl rfl (by decide) rfl ?_
              refine J_goto (tgt := 20) dX5_isSpelt_61 rfl ?_
              refine xx_J.pick [0, 1, 2, 3, 4, 5] rfl ?_
              exact ih _  (by rw [hx]; exact nI_1 p) (by rw [← hv, spF_s hpp, decide_eq_true h48, Bool.true_and])
    refine xx_J.pick [0, 1, 2, 3, 4, 5] rfl ?_
    exact loop 0 (by omega) _  rfl rfl
theorem J_getsN {M : xx_M} {fr lo mc ms : Nat} {Post : xx_Q} {pc : Nat} {L : List (Nat × Value)} {S : List Value} {k j idx : Nat} {C nm ds host : String} {v : Value} (hd : decode M.2.2.1 pc = .ok (.getstatic idx, 3)) (hq : (C, nm, ds, v) ∈ xx_st) (hvv : xx_vw 400 v) (hl : Cond.fieldLinkNest M.1 idx C nm ds host ∈ xx_N) (kk : xx_J G l M fr lo mc ms Post (pc + 3) L (v :: S) A n k j) : xx_J G l M fr lo mc ms Post pc L S A n k j := by
  intro p e s m args below meth c ad0 n0 F ad H locs ls ⟨a1, a2, a3, a4, a5, a6, a7⟩
  have hK := F.2.2.2.2.2.2.2.2.2.2.1
  have hZ : va_Z C nm ds (xx_v G.2.2.2 v) (xx_A G) s s.heap := hK.2.2.2.1 _ hq
  have e9 : xx_v G.2.2.2 v = xx_v ad v := xx_v_ext (n := 400) (fun q h => (a3.2.1 q h).symm) hvv
  rw [e9] at hZ
  exact va_getsN F.1 F.2.1 hZ a4 F.2.2.2.2.2.2.1 (va_Nw.use rfl (hK.2.1 _ hl)) (fun _ h => h) hd (kk p e s m args below meth c ad0 n0 F ad H locs ls ⟨a1, a2, a3, a4, a5, xx_c (xx_vw_le a3.1 hvv) a6, a7⟩)
/-- the first sign from i on that the bytes spell; dflt if there is none -/
def swtF (T : xS) (len s e dflt : Nat) : Nat → Nat → Nat
  | 0, _ => dflt
  | d + 1, i => if spelt T len s e (20 + i) then i else swtF T len s e dflt d (i + 1)
theorem swtF_s {T : xS} {len s e dflt i : Nat} (h : i < 39) : swtF T len s e dflt (39 - i) i = if spelt T len s e (20 + i) then i else swtF T len s e dflt (39 - (i + 1)) (i + 1) := by
  rw [show 39 - i = (39 - (i + 1)) + 1 by omega]
  rfl
theorem swtF_lt {T : xS} {len s e dflt : Nat} (hd : dflt < 39) : ∀ d i, i + d ≤ 39 → swtF T len s e dflt d i < 39 := by
  intro d
  induction d with
  | zero => intro i _; exact hd
  | succ d ih =>
    intro i h
    simp only [swtF]
    split
    · omega
    · exact ih (i + 1) (by omega)
theorem st_all : ("BeltRounds$Sign", "ALL", "[LBeltRounds$Sign;", Value.ref 39) ∈ xx_st := List.mem_append_right _ (List.mem_cons_self ..)
theorem sa_all : (39, FieldType.object "BeltRounds$Sign", 39, fun j => Value.ref j) ∈ xx_sa := List.mem_cons_self ..
theorem sf_txt {i : Nat} (hi : i < 39) : (i, "BeltRounds$Sign", "text", "Ljava/lang/String;", Value.ref (41 + (20 + i))) ∈ xx_sf := List.mem_append_left _ (List.mem_map.mpr ⟨i, List.mem_range.mpr hi, by rw [show 61 + i = 41 + (20 + i) by omega]⟩)
theorem c_X5_signWithText (hst : l.stackTraces = false) (hT : xx_w b (layT sg b T) A) {len : Nat} (hlen : T.1 1 = nI len) (h20 : len ≤ 2000) {s e : Nat} {x1 x2 : Int32} (hx1 : x1 = nI s) (hx2 : x2 = nI e) (hse : s ≤ e) (hel : e ≤ len) {dflt : Nat} (hd : dflt < 39) : xx_C G l yX5_signWithText mX5_signWithText 5 116 0 0 [.ref b, .int x1, .int x2, .ref dflt] A n (xx_ro (some (.ref (swtF T len s e dflt 39 0))) A n) := by
  refine J_C hst (by decide +kernel) rfl rfl rfl (Nat.le_of_ble_eq_true rfl) ?_
  show xx_J _ _ _ _ _ _ _ _ 0 [(0, _), (1, _), (2, _), (3, _)] [] _ _ _ _
  refine J_iconst (v := 0) dX5_signWithText_0 (by decide) ?_
  refine J_istore (L' := [(4, _), (0, _), (1, _), (2, _), (3, _)]) dX5_signWithText_1 (by decide) rfl ?_
  have loop : ∀ i, i ≤ 39 → ∀ (x : Int32), x = nI i → swtF T len s e dflt (39 - i) i = swtF T len s e dflt 39 0 → xx_J G l mX5_signWithText 5 116 0 0 (xx_ro (some (.ref (swtF T len s e dflt 39 0))) A n) 3 [(4, .int x), (0, .ref b), (1, .int x1), (2, .int x2), (3, .ref dflt)] [] A n 0 0 := by
    refine xx_dn ?_ ?_
    · intro x hx hv
      refine J_iload dX5_signWithText_3 rfl ?_
      refine J_getsN (v := .ref 39) dX5_signWithText_5 st_all (show (39 : Nat) < 400 by decide) sl_X5_85 ?_
      refine J_alenS dX5_signWithText_8 sa_all (by decide) rfl ?_
      refine J_icmp_ge (tgt := 43) dX5_signWithText_9 rfl (fun h => ?_) (fun h => absurd (by rw [hx]; exact nI_le (Nat.le_refl 39) (by omega)) h)
      refine J_aload_n dX5_signWithText_43 rfl rfl ?_
      refine J_areturn dX5_signWithText_44 rfl (by decide) (by decide) ?_
      exact ⟨by rw [← hv, Nat.sub_self]; rfl, rfl, rfl⟩
    · intro i hii ih x hx hv
      refine J_iload dX5_signWithText_3 rfl ?_
      refine J_getsN (v := .ref 39) dX5_signWithText_5 st_all (show (39 : Nat) < 400 by decide) sl_X5_85 ?_
      refine J_alenS dX5_signWithText_8 sa_all (by decide) rfl ?_
      refine J_icmp_ge (tgt := 43) dX5_signWithText_9 rfl (fun h => absurd (by rw [hx] at h; exact h) (nI_ge hii (by omega))) (fun h => ?_)
      refine J_getsN (v := .ref 39) dX5_signWithText_12 st_all (show (39 : Nat) < 400 by decide) sl_X5_85 ?_
      refine J_iload dX5_signWithText_15 rfl ?_
      refine J_aldS (v := .ref i) dX5_signWithText_17 sa_all (by decide) (by rw [hx]; exact vp_in_nI hii (by omega)) (by rw [hx, nI_clamp (by omega)]) (show i < 400 by omega) ?_
      refine J_astore (L' := [(5, _), (4, _), (0, _), (1, _), (2, _), (3, _)]) dX5_signWithText_18 (by decide) rfl ?_
      refine J_aload_n dX5_signWithText_20 rfl rfl ?_
      refine J_aload dX5_signWithText_21 rfl ?_
      refine J_getS dX5_signWithText_23 (sf_txt hii) (by omega) (show 41 + (20 + i) < 400 by omega) (Or.inr ⟨_, sl_X5_88⟩) ?_
      refine J_iload_n dX5_signWithText_26 rfl rfl ?_
      refine J_iload_n dX5_signWithText_27 rfl rfl ?_
      refine J_callVr (As := [_, _, _]) dX5_signWithText_28 ml_X5_92 cal_X5_isSpelt im_X5_isSpelt se_X5_isSpelt (hT.at 0 rfl) rfl rfl rfl (Nat.le_of_ble_eq_true rfl) ⟨by decide, by decide⟩ ⟨by decide, by decide⟩ (c_X5_isSpelt hst hT hlen h20 (show 20 + i < 59 by omega) hx1 hx2 hse hel) ?_
      refine J_ifb_eq (tgt := 37) dX5_signWithText_31 rfl (fun h31 => ?_) (fun h31 => ?_)
      · refine J_iinc (v := _ + 1) (L' := [(4, _), (5, _), (0, _), (1, _), (2, _), (3, _)]) dX5_signWithText_37 rfl rfl (by decide) rfl ?_
        refine J_goto (tgt := 3) dX5_signWithText_40 rfl ?_
        refine xx_J.pick [0, 2, 3, 4, 5] rfl ?_
        exact ih _ (by rw [hx]; exact nI_1 i) (by rw [← hv, swtF_s hii, if_neg h31])
      · refine J_aload dX5_signWithText_34 rfl ?_
        refine J_areturn dX5_signWithText_36 rfl (by decide) (by decide) ?_
        exact ⟨by rw [← hv, swtF_s hii, if_pos h31], rfl, rfl⟩
  exact loop 0 (by omega) _ rfl rfl
/-- what the token s .. e - 1 is -/
def sgF (T : xS) (len s e : Nat) : Nat := if s < len then (if isD (bat T len s) then (if e - s ≤ 6 then 36 else 38) else if isL (bat T len s) then (if e - s ≤ 10 then swtF T len s e 35 39 0 else 38) else swtF T len s e 38 39 0) else 37
theorem sgF_lt (T : xS) (len s e : Nat) : sgF T len s e < 39 := by
  unfold sgF
  (repeat' split) <;> first | omega | exact swtF_lt (by omega) _ _ (by omega)
theorem i_le6 {m : Nat} (h : m < 2 ^ 31) : nI m ≤ 6 ↔ m ≤ 6 := by rw [i_le, i_n h, i_6]; omega
theorem i_le10 {m : Nat} (h : m < 2 ^ 31) : nI m ≤ 10 ↔ m ≤ 10 := by rw [i_le, i_n h, i_10]; omega
theorem c_X5_signOf (hst : l.stackTraces = false) (hT : xx_w b (layT sg b T) A) {len : Nat} (hlen : T.1 1 = nI len) (h20 : len ≤ 2000) {s e : Nat} {x1 x2 : Int32} (hx1 : x1 = nI s) (hx2 : x2 = nI e) (hse : s ≤ e) (hel : e ≤ len) : xx_C G l yX5_signOf mX5_signOf 6 141 0 0 [.ref b, .int x1, .int x2] A n (xx_ro (some (.ref (sgF T len s e))) A n) := by
  have elen : (T.1 1).toInt = len := by rw [hlen]; exact i_n (by omega)
  have e2000 : (Int32.ofNat 2000).toInt = 2000 := rfl
  have ex : x1.toInt = s := by rw [hx1]; exact i_n (by omega)
  have hes : x2 - x1 = nI (e - s) := by rw [hx1, hx2, pk_sub hse]
  refine J_C hst (by decide +kernel) rfl rfl rfl (Nat.le_of_ble_eq_true rfl) ?_
  show xx_J _ _ _ _ _ _ _ _ 0 [(0, _), (1, _), (2, _)] [] _ _ _ _
  refine J_iload_n dX5_signOf_0 rfl rfl ?_
  refine J_aload_n dX5_signOf_1 rfl rfl ?_
  refine J_getf dX5_signOf_2 fl_X5_15 (hT.at 0 rfl) rfl ?_
  refine J_icmp_lt (tgt := 12) dX5_signOf_5 rfl (fun h5 => ?_) (fun h5 => ?_)
  · have hsl : s < len := by simp only [i_lt, i_le, i_eq, i_0, i_1, i_2, i_3, i_4, i_5, i_6, i_8, i_9, i_10, i_12, i_16, i_20, i_m1] at h5; omega
    refine J_aload_n dX5_signOf_12 rfl rfl ?_
    refine J_iload_n dX5_signOf_13 rfl rfl ?_
    refine J_callVr (As := [_]) dX5_signOf_14 ml_X5_60 cal_X5_byteAt im_X5_byteAt se_X5_byteAt (hT.at 0 rfl) rfl rfl rfl (Nat.le_of_ble_eq_true rfl) ⟨by decide, by decide⟩ ⟨by decide, by decide⟩ (c_X5_byteAt hst hT hlen h20 hx1 (by omega)) ?_
    refine J_istore_n (L' := [(3, _), (0, _), (1, _), (2, _)]) dX5_signOf_17 rfl (by decide) rfl ?_
    refine J_iload_n dX5_signOf_18 rfl rfl ?_
    refine J_callSr (As := [_]) dX5_signOf_19 ml_X5_66 cal_X5_isDigit sm_X5_isDigit rfl rfl (Nat.le_of_ble_eq_true rfl) ⟨by decide, by decide⟩ ⟨by decide, by decide⟩ (c_X5_isDigit hst _) ?_
    refine J_ifb_eq (tgt := 43) dX5_signOf_22 rfl (fun h22 => ?_) (fun h22 => ?_)
    · refine J_iload_n dX5_signOf_43 rfl rfl ?_
      refine J_callSr (As := [_]) dX5_signOf_44 ml_X5_63 cal_X5_isLetter sm_X5_isLetter rfl rfl (Nat.le_of_ble_eq_true rfl) ⟨by decide, by decide⟩ ⟨by decide, by decide⟩ (c_X5_isLetter hst _) ?_
      refine J_ifb_ne (tgt := 60) dX5_signOf_47 rfl (fun h47 => ?_) (fun h47 => ?_)
      · refine J_iload_n dX5_signOf_60 rfl rfl ?_
        refine J_iload_n dX5_signOf_61 rfl rfl ?_
        refine J_isub dX5_signOf_62 ?_
        rw [hes]
        refine J_bipush (v := 10) dX5_signOf_63 (by decide) ?_
        refine J_icmp_le (tgt := 74) dX5_signOf_65 rfl (fun h65 => ?_) (fun h65 => ?_)
        · refine J_aload_n dX5_signOf_74 rfl rfl ?_
          refine J_iload_n dX5_signOf_75 rfl rfl ?_
          refine J_iload_n dX5_signOf_76 rfl rfl ?_
          refine J_gets (v := .ref 35) dX5_signOf_77 (gs_mem 35 (by decide)) (show (35 : Nat) < 400 by decide) sl_X5_82 ?_
          refine J_callVr (As := [_, _, _]) dX5_signOf_80 ml_X5_78 cal_X5_signWithText im_X5_signWithText se_X5_signWithText (hT.at 0 rfl) rfl rfl rfl (Nat.le_of_ble_eq_true rfl) ⟨by decide, by decide⟩ ⟨by decide, by decide⟩ (c_X5_signWithText hst hT hlen h20 hx1 hx2 hse hel (dflt := 35) (by decide)) ?_
          refine J_areturn dX5_signOf_83 rfl (by decide) (by decide) ?_
          refine ⟨congrArg (fun v => Sum.inl (some (Value.ref v))) ?_, rfl, rfl⟩
          unfold sgF
          first
            | (rw [if_neg hsl]; done)
            | (rw [if_pos hsl, if_pos h22, if_pos ((i_le6 (by omega)).mp h30)]; done)
            | (rw [if_pos hsl, if_pos h22, if_neg (fun z => h30 ((i_le6 (by omega)).mpr z))]; done)
            | (rw [if_pos hsl, if_neg h22, if_pos h47, if_pos ((i_le10 (by omega)).mp h65)]; done)
            | (rw [if_pos hsl, if_neg h22, if_pos h47, if_neg (fun z => h65 ((i_le10 (by omega)).mpr z))]; done)
            | (rw [if_pos hsl, if_neg h22, if_neg h47]; done)
        · refine J_gets (v := .ref 38) dX5_signOf_68 (gs_mem 38 (by decide)) (show (38 : Nat) < 400 by decide) sl_X5_50 ?_
          refine J_goto (tgt := 83) dX5_signOf_71 rfl ?_
          refine J_areturn dX5_signOf_83 rfl (by decide) (by decide) ?_
          refine ⟨congrArg (fun v => Sum.inl (some (Value.ref v))) ?_, rfl, rfl⟩
          unfold sgF
          first
            | (rw [if_neg hsl]; done)
            | (rw [if_pos hsl, if_pos h22, if_pos ((i_le6 (by omega)).mp h30)]; done)
            | (rw [if_pos hsl, if_pos h22, if_neg (fun z => h30 ((i_le6 (by omega)).mpr z))]; done)
            | (rw [if_pos hsl, if_neg h22, if_pos h47, if_pos ((i_le10 (by omega)).mp h65)]; done)
            | (rw [if_pos hsl, if_neg h22, if_pos h47, if_neg (fun z => h65 ((i_le10 (by omega)).mpr z))]; done)
            | (rw [if_pos hsl, if_neg h22, if_neg h47]; done)
      · refine J_aload_n dX5_signOf_50 rfl rfl ?_
        refine J_iload_n dX5_signOf_51 rfl rfl ?_
        refine J_iload_n dX5_signOf_52 rfl rfl ?_
        refine J_gets (v := .ref 38) dX5_signOf_53 (gs_mem 38 (by decide)) (show (38 : Nat) < 400 by decide) sl_X5_50 ?_
        refine J_callVr (As := [_, _, _]) dX5_signOf_56 ml_X5_78 cal_X5_signWithText im_X5_signWithText se_X5_signWithText (hT.at 0 rfl) rfl rfl rfl (Nat.le_of_ble_eq_true rfl) ⟨by decide, by decide⟩ ⟨by decide, by decide⟩ (c_X5_signWithText hst hT hlen h20 hx1 hx2 hse hel (dflt := 38) (by decide)) ?_
        refine J_areturn dX5_signOf_59 rfl (by decide) (by decide) ?_
        refine ⟨congrArg (fun v => Sum.inl (some (Value.ref v))) ?_, rfl, rfl⟩
        unfold sgF
        first
          | (rw [if_neg hsl]; done)
          | (rw [if_pos hsl, if_pos h22, if_pos ((i_le6 (by omega)).mp h30)]; done)
          | (rw [if_pos hsl, if_pos h22, if_neg (fun z => h30 ((i_le6 (by omega)).mpr z))]; done)
          | (rw [if_pos hsl, if_neg h22, if_pos h47, if_pos ((i_le10 (by omega)).mp h65)]; done)
          | (rw [if_pos hsl, if_neg h22, if_pos h47, if_neg (fun z => h65 ((i_le10 (by omega)).mpr z))]; done)
          | (rw [if_pos hsl, if_neg h22, if_neg h47]; done)
    · refine J_iload_n dX5_signOf_25 rfl rfl ?_
      refine J_iload_n dX5_signOf_26 rfl rfl ?_
      refine J_isub dX5_signOf_27 ?_
      rw [hes]
      refine J_bipush (v := 6) dX5_signOf_28 (by decide) ?_
      refine J_icmp_le (tgt := 39) dX5_signOf_30 rfl (fun h30 => ?_) (fun h30 => ?_)
      · refine J_gets (v := .ref 36) dX5_signOf_39 (gs_mem 36 (by decide)) (show (36 : Nat) < 400 by decide) sl_X5_57 ?_
        refine J_areturn dX5_signOf_42 rfl (by decide) (by decide) ?_
        refine ⟨congrArg (fun v => Sum.inl (some (Value.ref v))) ?_, rfl, rfl⟩
        unfold sgF
        first
          | (rw [if_neg hsl]; done)
          | (rw [if_pos hsl, if_pos h22, if_pos ((i_le6 (by omega)).mp h30)]; done)
          | (rw [if_pos hsl, if_pos h22, if_neg (fun z => h30 ((i_le6 (by omega)).mpr z))]; done)
          | (rw [if_pos hsl, if_neg h22, if_pos h47, if_pos ((i_le10 (by omega)).mp h65)]; done)
          | (rw [if_pos hsl, if_neg h22, if_pos h47, if_neg (fun z => h65 ((i_le10 (by omega)).mpr z))]; done)
          | (rw [if_pos hsl, if_neg h22, if_neg h47]; done)
      · refine J_gets (v := .ref 38) dX5_signOf_33 (gs_mem 38 (by decide)) (show (38 : Nat) < 400 by decide) sl_X5_50 ?_
        refine J_goto (tgt := 42) dX5_signOf_36 rfl ?_
        refine J_areturn dX5_signOf_42 rfl (by decide) (by decide) ?_
        refine ⟨congrArg (fun v => Sum.inl (some (Value.ref v))) ?_, rfl, rfl⟩
        unfold sgF
        first
          | (rw [if_neg hsl]; done)
          | (rw [if_pos hsl, if_pos h22, if_pos ((i_le6 (by omega)).mp h30)]; done)
          | (rw [if_pos hsl, if_pos h22, if_neg (fun z => h30 ((i_le6 (by omega)).mpr z))]; done)
          | (rw [if_pos hsl, if_neg h22, if_pos h47, if_pos ((i_le10 (by omega)).mp h65)]; done)
          | (rw [if_pos hsl, if_neg h22, if_pos h47, if_neg (fun z => h65 ((i_le10 (by omega)).mpr z))]; done)
          | (rw [if_pos hsl, if_neg h22, if_neg h47]; done)
  · have hsl : ¬ s < len := by simp only [i_lt, i_le, i_eq, i_0, i_1, i_2, i_3, i_4, i_5, i_6, i_8, i_9, i_10, i_12, i_16, i_20, i_m1] at h5; omega
    refine J_gets (v := .ref 37) dX5_signOf_8 (gs_mem 37 (by decide)) (show (37 : Nat) < 400 by decide) sl_X5_46 ?_
    refine J_areturn dX5_signOf_11 rfl (by decide) (by decide) ?_
    refine ⟨congrArg (fun v => Sum.inl (some (Value.ref v))) ?_, rfl, rfl⟩
    unfold sgF
    first
      | (rw [if_neg hsl]; done)
      | (rw [if_pos hsl, if_pos h22, if_pos ((i_le6 (by omega)).mp h30)]; done)
      | (rw [if_pos hsl, if_pos h22, if_neg (fun z => h30 ((i_le6 (by omega)).mpr z))]; done)
      | (rw [if_pos hsl, if_neg h22, if_pos h47, if_pos ((i_le10 (by omega)).mp h65)]; done)
      | (rw [if_pos hsl, if_neg h22, if_pos h47, if_neg (fun z => h65 ((i_le10 (by omega)).mpr z))]; done)
      | (rw [if_pos hsl, if_neg h22, if_neg h47]; done)
variable {T1 : xS} {len : Nat}
theorem bat_c (h : T1.2 1 = T.2 1) (i : Nat) : bat T1 len i = bat T len i := by unfold bat; rw [h]
theorem bbl_c (h : T1.2 1 = T.2 1) : ∀ d i, bbl T1 len d i = bbl T len d i := by
  intro d
  induction d with
  | zero => intro i; rfl
  | succ d ih => intro i; simp only [bbl, bat_c h, ih]
theorem eosF_c (h : T1.2 1 = T.2 1) (i : Nat) : eosF T1 len i = eosF T len i := by unfold eosF; simp only [bat_c h]
theorem etl_c (h : T1.2 1 = T.2 1) (lt : Prop) [Decidable lt] : ∀ d i, etl T1 len lt d i = etl T len lt d i := by
  intro d
  induction d with
  | zero => intro i; rfl
  | succ d ih => intro i; simp only [etl, bat_c h, ih]
theorem eotF_c (h : T1.2 1 = T.2 1) (s : Nat) : eotF T1 len s = eotF T len s := by unfold eotF; simp only [bat_c h, eosF_c h, etl_c h]
theorem spF_c (h : T1.2 1 = T.2 1) (s i : Nat) : ∀ d p, spF T1 len s i d p = spF T len s i d p := by
  intro d
  induction d with
  | zero => intro p; rfl
  | succ d ih => intro p; simp only [spF, bat_c h, ih]
theorem swtF_c (h : T1.2 1 = T.2 1) (s e q : Nat) : ∀ d i, swtF T1 len s e q d i = swtF T len s e q d i := by
  intro d
  induction d with
  | zero => intro i; rfl
  | succ d ih => intro i; simp only [swtF, spelt, spF_c h, ih]
theorem sgF_c (h : T1.2 1 = T.2 1) (s e : Nat) : sgF T1 len s e = sgF T len s e := by unfold sgF; simp only [bat_c h, swtF_c h]
theorem nmF_c (h : T1.2 1 = T.2 1) : ∀ d i acc, nmF T1 len d i acc = nmF T len d i acc := by
  intro d
  induction d with
  | zero => intro i acc; rfl
  | succ d ih => intro i acc; simp only [nmF, bat_c h, ih]
theorem smF_c (h : T1.2 1 = T.2 1) : ∀ d i q, smF T1 len d i q = smF T len d i q := by
  intro d
  induction d with
  | zero => intro i q; rfl
  | succ d ih => intro i q; simp only [smF, bat_c h, ih]
/-- where token i is looked for, begins, ends, what it is -/
def scA (T : xS) (len : Nat) : Nat → Nat
  | 0 => 0
  | i + 1 => eotF T len (bbl T len (len - scA T len i) (scA T len i))
def scS (T : xS) (len i : Nat) : Nat := bbl T len (len - scA T len i) (scA T len i)
def scE (T : xS) (len i : Nat) : Nat := eotF T len (scS T len i)
def scG (T : xS) (len i : Nat) : Nat := if i = 400 ∧ ¬ sgF T len (scS T len i) (scE T len i) = 37 then 38 else sgF T len (scS T len i) (scE T len i)
theorem bbl_le {i : Nat} (h : i ≤ len) : bbl T len (len - i) i ≤ len ∧ i ≤ bbl T len (len - i) i := by
  have key : ∀ d i, i + d = len → bbl T len d i ≤ len ∧ i ≤ bbl T len d i := by
    intro d
    induction d with
    | zero => intro i h; exact ⟨by simp only [bbl]; omega, Nat.le_refl _⟩
    | succ d ih =>
      intro i h
      simp only [bbl]
      have := ih (i + 1) (by omega)
      split
      · omega
      · omega
  exact key _ _ (by omega)
theorem etl_le (lt : Prop) [Decidable lt] : ∀ d i, i + d = len → etl T len lt d i ≤ len ∧ i ≤ etl T len lt d i := by
  intro d
  induction d with
  | zero => intro i h; exact ⟨by simp only [etl]; omega, Nat.le_refl _⟩
  | succ d ih =>
    intro i h
    simp only [etl]
    have := ih (i + 1) (by omega)
    split
    · omega
    · omega
theorem eotF_le {s : Nat} (h : s ≤ len) : eotF T len s ≤ len ∧ s ≤ eotF T len s := by
  unfold eotF
  split
  · rename_i h2
    have h3 := bat_in h2
    have := etl_le (T := T) (len := len) (isL (bat T len s)) (len - (s + 1)) (s + 1) (by omega)
    omega
  · unfold eosF
    split <;> omega
theorem scA_le : ∀ i, scA T len i ≤ len := by
  intro i
  induction i with
  | zero => exact Nat.zero_le _
  | succ i ih => exact (eotF_le (bbl_le ih).1).1
theorem scS_le (i : Nat) : scS T len i ≤ len := (bbl_le (scA_le i)).1
theorem scE_le (i : Nat) : scE T len i ≤ len ∧ scS T len i ≤ scE T len i := eotF_le (scS_le i)
theorem scG_lt (i : Nat) : scG T len i < 39 := by
  unfold scG
  split
  · omega
  · exact sgF_lt _ _ _ _
theorem scG_400 : scG T len 400 = 37 ∨ scG T len 400 = 38 := by
  unfold scG
  by_cases h : sgF T len (scS T len 400) (scE T len 400) = 37
  · rw [if_neg (fun z => z.2 h)]; exact Or.inl h
  · rw [if_pos ⟨rfl, h⟩]; exact Or.inr rfl
/-- what scan lays of the tokens below i -/
def scn (T : xS) (len i : Nat) (sg : Nat → Option Nat) (X : xS) : Prop := X.1 5 = nI i ∧ X.1 1 = T.1 1 ∧ X.2 1 = T.2 1 ∧ ∀ q, q < i → sg q = some (scG T len q) ∧ X.2 3 q = nI (scS T len q) ∧ X.2 4 q = nI (scE T len q)
theorem scn_s {i : Nat} {g : Nat → Option Nat} {X : xS} (h : scn T len i g X) {v : Nat} (hv : v = scG T len i) : scn T len (i + 1) (va_up g i (some v)) (s_up (a_up (a_up X 3 (upd (X.2 3) i (nI (scS T len i)))) 4 (upd (X.2 4) i (nI (scE T len i)))) 5 (X.1 5 + 1)) := by
  obtain ⟨h1, h2, h3, h4⟩ := h
  refine ⟨?_, h2, h3, fun q hq => ?_⟩
  · show X.1 5 + 1 = _
    rw [h1]; exact nI_1 i
  · show va_up g i (some v) q = _ ∧ upd (X.2 3) i (nI (scS T len i)) q = _ ∧ upd (X.2 4) i (nI (scE T len i)) q = _
    simp only [va_up, upd]
    by_cases e : q = i
    · subst e
      rw [if_pos rfl, if_pos rfl, if_pos rfl, hv]
      exact ⟨rfl, rfl, rfl⟩
    · rw [if_neg e, if_neg e, if_neg e]
      exact h4 q (by omega)
def scnP (T : xS) (len : Nat) (b n : Nat) (A : xx_H) : xx_Q := xx_wr none n (fun A' => ∃ nt g X, (0 < nt ∧ nt ≤ 401 ∧ scn T len nt g X ∧ (∀ q, q + 1 < nt → ¬ scG T len q = 37 ∧ ¬ scG T len q = 38) ∧ (scG T len (nt - 1) = 37 ∨ scG T len (nt - 1) = 38)) ∧ xx_w b (layT g b X) A' ∧ xx_same b (b + 5) A A')
set_option maxHeartbeats 4000000 in
theorem c_X5_scan (hst : l.stackTraces = false) (hT : xx_w b (layT sg b T) A) (hlen : T.1 1 = nI len) (h20 : len ≤ 2000) : xx_C G l yX5_scan mX5_scan 7 164 0 0 [.ref b] A n (scnP T len b n A) := by
  refine J_C hst (by decide +kernel) rfl rfl rfl (Nat.le_of_ble_eq_true rfl) ?_
  show xx_J _ _ _ _ _ _ _ _ 0 [(0, _)] [] _ _ _ _
  refine J_iconst (v := 0) dX5_scan_0 (by decide) ?_
  refine J_istore_n (L' := [(1, _), (0, _)]) dX5_scan_1 rfl (by decide) rfl ?_
  refine J_iconst (v := 1) dX5_scan_2 (by decide) ?_
  refine J_istore_n (L' := [(2, _), (1, _), (0, _)]) dX5_scan_3 rfl (by decide) rfl ?_
  refine J_aload_n dX5_scan_4 rfl rfl ?_
  refine J_iconst (v := 0) dX5_scan_5 (by decide) ?_
  refine J_putf dX5_scan_6 fp_X5_32 (fun _ => ⟨rfl, rfl⟩) (hT.at 0 rfl) (Nat.le_of_ble_eq_true rfl) ?_
  refine J_gen (wT_s0_5 hT _) (xx_same.rf.put (b := b) (e := b + 5) (by omega) (by omega) _) (fun A9 w9 s9 o9 => ?_)
  have loop : ∀ i, i ≤ 401 → ∀ (x : Int32) (A1 : xx_H) (g : Nat → Option Nat) (X : xS), x = nI (scA T len i) → xx_w b (layT g b X) A1 → xx_same b (b + 5) A A1 → scn T len i g X → (∀ q, q < i → ¬ scG T len q = 37 ∧ ¬ scG T len q = 38) → xx_J G l mX5_scan 7 164 0 0 (scnP T len b n A) 9 [(2, .int 1), (1, .int x), (0, .ref b)] [] A1 n 0 0 := by
    refine xx_dn ?_ ?_
    · intro x A1 g X hx hT1 hs1 hscn hne
      have z := hne 400 (by omega)
      exact absurd scG_400 (fun y => y.elim z.1 z.2)
    · intro i hii ih x A1 g X hx hT1 hs1 hscn hne
      have e51 : (X.1 5).toInt = i := by rw [hscn.1]; exact i_n (by omega)
      refine J_iload_n dX5_scan_9 rfl rfl ?_
      refine J_if_eq (tgt := 132) dX5_scan_10 rfl (fun h10 => ?_) (fun h10 => ?_)
      · first | exact absurd h10 (by decide) | exact absurd (by decide) h10
      · refine J_aload_n dX5_scan_13 rfl rfl ?_
        refine J_getf dX5_scan_14 fl_X5_32 (hT1.at 0 rfl) rfl ?_
        refine J_sipush (v := 400) dX5_scan_17 (by decide) ?_
        refine J_icmp_gt (tgt := 132) dX5_scan_20 rfl (fun hb20 => ?_) (fun hb20 => ?_)
        · first | (exfalso; simp only [i_lt, i_le, i_eq, i_0, i_1, i_2, i_3, i_4, i_5, i_6, i_8, i_9, i_10, i_12, i_16, i_20, i_m1, i_400, i_2000] at hb20; omega) | (exfalso; simp only [s_up, a_up, va_up, i_lt, i_le, i_eq, i_0, i_1, i_2, i_3, i_4, i_5, i_6, i_8, i_9, i_10, i_12, i_16, i_20, i_m1, i_400, i_2000, ↓reduceIte, Nat.reduceEqDiff] at hb20; omega)
        · refine J_aload_n dX5_scan_23 rfl rfl ?_
          refine J_iload_n dX5_scan_24 rfl rfl ?_
          refine J_callVr (As := [_]) dX5_scan_25 ml_X5_35 cal_X5_behindBlanks im_X5_behindBlanks se_X5_behindBlanks (hT1.at 0 rfl) rfl rfl rfl (Nat.le_of_ble_eq_true rfl) ⟨by decide, by decide⟩ ⟨by decide, by decide⟩ ((by have z := c_X5_behindBlanks (G := G) (n := n) hst hT1 (hscn.2.1.trans hlen) h20 hx (scA_le i); rw [bbl_c hscn.2.2.1] at z; exact z : xx_C G l yX5_behindBlanks mX5_behindBlanks 1 21 0 0 [.ref b, .int x] _ n (xx_ro (some (.int (nI (scS T len i)))) _ n))) ?_
          refine J_istore_n (L' := [(3, _), (2, _), (1, _), (0, _)]) dX5_scan_28 rfl (by decide) rfl ?_
          refine J_aload_n dX5_scan_29 rfl rfl ?_
          refine J_iload_n dX5_scan_30 rfl rfl ?_
          refine J_callVr (As := [_]) dX5_scan_31 ml_X5_39 cal_X5_endOfToken im_X5_endOfToken se_X5_endOfToken (hT1.at 0 rfl) rfl rfl rfl (Nat.le_of_ble_eq_true rfl) ⟨by decide, by decide⟩ ⟨by decide, by decide⟩ ((by have z := c_X5_endOfToken (G := G) (n := n) hst hT1 (hscn.2.1.trans hlen) h20 (rfl : nI (scS T len i) = nI (scS T len i)) (scS_le i); rw [eotF_c hscn.2.2.1] at z; exact z : xx_C G l yX5_endOfToken mX5_endOfToken 2 44 0 0 [.ref b, .int (nI (scS T len i))] _ n (xx_ro (some (.int (nI (scE T len i)))) _ n))) ?_
          refine J_istore_n (L' := [(1, _), (3, _), (2, _), (0, _)]) dX5_scan_34 rfl (by decide) rfl ?_
          refine J_aload_n dX5_scan_35 rfl rfl ?_
          refine J_iload_n dX5_scan_36 rfl rfl ?_
          refine J_iload_n dX5_scan_37 rfl rfl ?_
          refine J_callVr (As := [_, _]) dX5_scan_38 ml_X5_42 cal_X5_signOf im_X5_signOf se_X5_signOf (hT1.at 0 rfl) rfl rfl rfl (Nat.le_of_ble_eq_true rfl) ⟨by decide, by decide⟩ ⟨by decide, by decide⟩ ((by have z := c_X5_signOf (G := G) (n := n) hst hT1 (hscn.2.1.trans hlen) h20 (rfl : nI (scS T len i) = nI (scS T len i)) (rfl : nI (scE T len i) = nI (scE T len i)) (scE_le i).2 (scE_le i).1; rw [sgF_c hscn.2.2.1] at z; exact z : xx_C G l yX5_signOf mX5_signOf 6 141 0 0 [.ref b, .int (nI (scS T len i)), .int (nI (scE T len i))] _ n (xx_ro (some (.ref (sgF T len (scS T len i) (scE T len i)))) _ n))) ?_
          refine J_astore (L' := [(4, _), (1, _), (3, _), (2, _), (0, _)]) dX5_scan_41 (by decide) rfl ?_
          refine J_aload_n dX5_scan_43 rfl rfl ?_
          refine J_getf dX5_scan_44 fl_X5_32 (hT1.at 0 rfl) rfl ?_
          refine J_sipush (v := 400) dX5_scan_47 (by decide) ?_
          refine J_icmp_ne (tgt := 66) dX5_scan_50 rfl (fun h50 => ?_) (fun h50 => ?_)
          · have hi4 : ¬ i = 400 := fun z => h50 (by show X.1 5 = 400; rw [hscn.1, z]; rfl)
            have hvg : (sgF T len (scS T len i) (scE T len i)) = scG T len i := by
              unfold scG
              first
                | (rw [if_neg (fun z => hi4 z.1)]; done)
                | (rw [if_neg (fun z => z.2 (Option.some.inj h58))]; done)
                | (rw [if_pos ⟨hi4, fun z => h58 (congrArg some z)⟩]; done)
            refine J_aload_n dX5_scan_66 rfl rfl ?_
            refine J_getf dX5_scan_67 fl_X5_21 (hT1.at 0 rfl) rfl ?_
            refine J_aload_n dX5_scan_70 rfl rfl ?_
            refine J_getf dX5_scan_71 fl_X5_32 (hT1.at 0 rfl) rfl ?_
            refine J_aload dX5_scan_74 rfl ?_
            refine J_aastN i dX5_scan_76 (hT1.at 2 rfl) hscn.1 (by omega) (by decide) (by first | exact sgF_lt _ _ _ _ | decide) ?_
            refine J_gen (wT_a2 hT1 _) (hs1.put (by omega) (by omega) _) (fun A1 w1 s1 o1 => ?_)
            refine J_aload_n dX5_scan_77 rfl rfl ?_
            refine J_getf dX5_scan_78 fl_X5_25 (w1.at 0 rfl) rfl ?_
            refine J_aload_n dX5_scan_81 rfl rfl ?_
            refine J_getf dX5_scan_82 fl_X5_32 (w1.at 0 rfl) rfl ?_
            refine J_iload_n dX5_scan_85 rfl rfl ?_
            refine J_iastN i dX5_scan_86 (w1.at 3 rfl) hscn.1 (by omega) (by decide) ?_
            refine J_gen (wT_a3 w1 _) (s1.put (by omega) (by omega) _) (fun A2 w2 s2 o2 => ?_)
            refine J_aload_n dX5_scan_87 rfl rfl ?_
            refine J_getf dX5_scan_88 fl_X5_29 (w2.at 0 rfl) rfl ?_
            refine J_aload_n dX5_scan_91 rfl rfl ?_
            refine J_getf dX5_scan_92 fl_X5_32 (w2.at 0 rfl) rfl ?_
            refine J_iload_n dX5_scan_95 rfl rfl ?_
            refine J_iastN i dX5_scan_96 (w2.at 4 rfl) hscn.1 (by omega) (by decide) ?_
            refine J_gen (wT_a4 w2 _) (s2.put (by omega) (by omega) _) (fun A3 w3 s3 o3 => ?_)
            refine J_aload dX5_scan_97 rfl ?_
            refine J_gets (v := .ref 37) dX5_scan_99 (gs_mem 37 (by decide)) (show (37 : Nat) < 400 by decide) sl_X5_46 ?_
            refine J_acmp_eq (tgt := 117) (rx := some (sgF T len (scS T len i) (scE T len i))) (ry := some 37) dX5_scan_102 rfl (fun q h => by cases h; exact sgF_lt _ _ _ _) (fun q h => by cases h; decide) (fun h102 => ?_) (fun h102 => ?_)
            · refine J_iconst (v := 0) dX5_scan_117 (by decide) ?_
              refine J_istore_n (L' := [(2, _), (4, _), (1, _), (3, _), (0, _)]) dX5_scan_118 rfl (by decide) rfl ?_
              refine J_aload_n dX5_scan_119 rfl rfl ?_
              refine J_dup dX5_scan_120 rfl ?_
              refine J_getf dX5_scan_121 fl_X5_32 (w3.at 0 rfl) rfl ?_
              refine J_iconst (v := 1) dX5_scan_124 (by decide) ?_
              refine J_iadd dX5_scan_125 ?_
              refine J_putf dX5_scan_126 fp_X5_32 (fun _ => ⟨rfl, rfl⟩) (w3.at 0 rfl) (Nat.le_of_ble_eq_true rfl) ?_
              refine J_gen (wT_s0_5 w3 _) (s3.put (by omega) (by omega) _) (fun A4 w4 s4 o4 => ?_)
              refine J_goto (tgt := 9) dX5_scan_129 rfl ?_
              refine J_iload_n dX5_scan_9 rfl rfl ?_
              refine J_if_eq (tgt := 132) dX5_scan_10 rfl (fun h10 => ?_) (fun h10 => ?_)
              · refine J_return dX5_scan_132 rfl (by decide) (by decide) ?_
                exact ⟨rfl, rfl, i + 1, _, _, ⟨by omega, by omega, scn_s hscn hvg, fun q hq => hne q (by omega), by first | exact Or.inl (hvg.symm.trans (Option.some.inj h102)) | exact Or.inr (hvg.symm.trans (Option.some.inj h110))⟩, w4, s4⟩
              · first | exact absurd h10 (by decide) | exact absurd (by decide) h10
            · refine J_aload dX5_scan_105 rfl ?_
              refine J_gets (v := .ref 38) dX5_scan_107 (gs_mem 38 (by decide)) (show (38 : Nat) < 400 by decide) sl_X5_50 ?_
              refine J_acmp_eq (tgt := 117) (rx := some (sgF T len (scS T len i) (scE T len i))) (ry := some 38) dX5_scan_110 rfl (fun q h => by cases h; exact sgF_lt _ _ _ _) (fun q h => by cases h; decide) (fun h110 => ?_) (fun h110 => ?_)
              · refine J_iconst (v := 0) dX5_scan_117 (by decide) ?_
                refine J_istore_n (L' := [(2, _), (4, _), (1, _), (3, _), (0, _)]) dX5_scan_118 rfl (by decide) rfl ?_
                refine J_aload_n dX5_scan_119 rfl rfl ?_
                refine J_dup dX5_scan_120 rfl ?_
                refine J_getf dX5_scan_121 fl_X5_32 (w3.at 0 rfl) rfl ?_
                refine J_iconst (v := 1) dX5_scan_124 (by decide) ?_
                refine J_iadd dX5_scan_125 ?_
                refine J_putf dX5_scan_126 fp_X5_32 (fun _ => ⟨rfl, rfl⟩) (w3.at 0 rfl) (Nat.le_of_ble_eq_true rfl) ?_
                refine J_gen (wT_s0_5 w3 _) (s3.put (by omega) (by omega) _) (fun A5 w5 s5 o5 => ?_)
                refine J_goto (tgt := 9) dX5_scan_129 rfl ?_
                refine J_iload_n dX5_scan_9 rfl rfl ?_
                refine J_if_eq (tgt := 132) dX5_scan_10 rfl (fun h10 => ?_) (fun h10 => ?_)
                · refine J_return dX5_scan_132 rfl (by decide) (by decide) ?_
                  exact ⟨rfl, rfl, i + 1, _, _, ⟨by omega, by omega, scn_s hscn hvg, fun q hq => hne q (by omega), by first | exact Or.inl (hvg.symm.trans (Option.some.inj h102)) | exact Or.inr (hvg.symm.trans (Option.some.inj h110))⟩, w5, s5⟩
                · first | exact absurd h10 (by decide) | exact absurd (by decide) h10
              · refine J_iconst (v := 1) dX5_scan_113 (by decide) ?_
                refine J_goto (tgt := 118) dX5_scan_114 rfl ?_
                refine J_istore_n (L' := [(2, _), (4, _), (1, _), (3, _), (0, _)]) dX5_scan_118 rfl (by decide) rfl ?_
                refine J_aload_n dX5_scan_119 rfl rfl ?_
                refine J_dup dX5_scan_120 rfl ?_
                refine J_getf dX5_scan_121 fl_X5_32 (w3.at 0 rfl) rfl ?_
                refine J_iconst (v := 1) dX5_scan_124 (by decide) ?_
                refine J_iadd dX5_scan_125 ?_
                refine J_putf dX5_scan_126 fp_X5_32 (fun _ => ⟨rfl, rfl⟩) (w3.at 0 rfl) (Nat.le_of_ble_eq_true rfl) ?_
                refine J_gen (wT_s0_5 w3 _) (s3.put (by omega) (by omega) _) (fun A6 w6 s6 o6 => ?_)
                refine J_goto (tgt := 9) dX5_scan_129 rfl ?_
                refine xx_J.pick [0, 2, 4] rfl ?_
                exact ih _ _ _ _ rfl w6 s6 (scn_s hscn hvg) (fun q hq => by
                  by_cases e : q = i
                  · subst e; exact ⟨fun z => h102 (congrArg some (hvg.trans z)), fun z => h110 (congrArg some (hvg.trans z))⟩
                  · exact hne q (by omega))
          · have hi4 : i = 400 := by
              have z : X.1 5 = 400 := h50
              rw [hscn.1, i_eq, i_n (by omega), i_400] at z
              omega
            refine J_aload dX5_scan_53 rfl ?_
            refine J_gets (v := .ref 37) dX5_scan_55 (gs_mem 37 (by decide)) (show (37 : Nat) < 400 by decide) sl_X5_46 ?_
            refine J_acmp_eq (tgt := 66) (rx := some (sgF T len (scS T len i) (scE T len i))) (ry := some 37) dX5_scan_58 rfl (fun q h => by cases h; exact sgF_lt _ _ _ _) (fun q h => by cases h; decide) (fun h58 => ?_) (fun h58 => ?_)
            · have hvg : (sgF T len (scS T len i) (scE T len i)) = scG T len i := by
                unfold scG
                first
                  | (rw [if_neg (fun z => hi4 z.1)]; done)
                  | (rw [if_neg (fun z => z.2 (Option.some.inj h58))]; done)
                  | (rw [if_pos ⟨hi4, fun z => h58 (congrArg some z)⟩]; done)
              refine J_aload_n dX5_scan_66 rfl rfl ?_
              refine J_getf dX5_scan_67 fl_X5_21 (hT1.at 0 rfl) rfl ?_
              refine J_aload_n dX5_scan_70 rfl rfl ?_
              refine J_getf dX5_scan_71 fl_X5_32 (hT1.at 0 rfl) rfl ?_
              refine J_aload dX5_scan_74 rfl ?_
              refine J_aastN i dX5_scan_76 (hT1.at 2 rfl) hscn.1 (by omega) (by decide) (by first | exact sgF_lt _ _ _ _ | decide) ?_
              refine J_gen (wT_a2 hT1 _) (hs1.put (by omega) (by omega) _) (fun A7 w7 s7 o7 => ?_)
              refine J_aload_n dX5_scan_77 rfl rfl ?_
              refine J_getf dX5_scan_78 fl_X5_25 (w7.at 0 rfl) rfl ?_
              refine J_aload_n dX5_scan_81 rfl rfl ?_
              refine J_getf dX5_scan_82 fl_X5_32 (w7.at 0 rfl) rfl ?_
              refine J_iload_n dX5_scan_85 rfl rfl ?_
              refine J_iastN i dX5_scan_86 (w7.at 3 rfl) hscn.1 (by omega) (by decide) ?_
              refine J_gen (wT_a3 w7 _) (s7.put (by omega) (by omega) _) (fun A8 w8 s8 o8 => ?_)
              refine J_aload_n dX5_scan_87 rfl rfl ?_
              refine J_getf dX5_scan_88 fl_X5_29 (w8.at 0 rfl) rfl ?_
              refine J_aload_n dX5_scan_91 rfl rfl ?_
              refine J_getf dX5_scan_92 fl_X5_32 (w8.at 0 rfl) rfl ?_
              refine J_iload_n dX5_scan_95 rfl rfl ?_
              refine J_iastN i dX5_scan_96 (w8.at 4 rfl) hscn.1 (by omega) (by decide) ?_
              refine J_gen (wT_a4 w8 _) (s8.put (by omega) (by omega) _) (fun A9 w9 s9 o9 => ?_)
              refine J_aload dX5_scan_97 rfl ?_
              refine J_gets (v := .ref 37) dX5_scan_99 (gs_mem 37 (by decide)) (show (37 : Nat) < 400 by decide) sl_X5_46 ?_
              refine J_acmp_eq (tgt := 117) (rx := some (sgF T len (scS T len i) (scE T len i))) (ry := some 37) dX5_scan_102 rfl (fun q h => by cases h; exact sgF_lt _ _ _ _) (fun q h => by cases h; decide) (fun h102 => ?_) (fun h102 => ?_)
              · refine J_iconst (v := 0) dX5_scan_117 (by decide) ?_
                refine J_istore_n (L' := [(2, _), (4, _), (1, _), (3, _), (0, _)]) dX5_scan_118 rfl (by decide) rfl ?_
                refine J_aload_n dX5_scan_119 rfl rfl ?_
                refine J_dup dX5_scan_120 rfl ?_
                refine J_getf dX5_scan_121 fl_X5_32 (w9.at 0 rfl) rfl ?_
                refine J_iconst (v := 1) dX5_scan_124 (by decide) ?_
                refine J_iadd dX5_scan_125 ?_
                refine J_putf dX5_scan_126 fp_X5_32 (fun _ => ⟨rfl, rfl⟩) (w9.at 0 rfl) (Nat.le_of_ble_eq_true rfl) ?_
                refine J_gen (wT_s0_5 w9 _) (s9.put (by omega) (by omega) _) (fun A10 w10 s10 o10 => ?_)
                refine J_goto (tgt := 9) dX5_scan_129 rfl ?_
                refine J_iload_n dX5_scan_9 rfl rfl ?_
                refine J_if_eq (tgt := 132) dX5_scan_10 rfl (fun h10 => ?_) (fun h10 => ?_)
                · refine J_return dX5_scan_132 rfl (by decide) (by decide) ?_
                  exact ⟨rfl, rfl, i + 1, _, _, ⟨by omega, by omega, scn_s hscn hvg, fun q hq => hne q (by omega), by first | exact Or.inl (hvg.symm.trans (Option.some.inj h102)) | exact Or.inr (hvg.symm.trans (Option.some.inj h110))⟩, w10, s10⟩
                · first | exact absurd h10 (by decide) | exact absurd (by decide) h10
              · refine J_aload dX5_scan_105 rfl ?_
                refine J_gets (v := .ref 38) dX5_scan_107 (gs_mem 38 (by decide)) (show (38 : Nat) < 400 by decide) sl_X5_50 ?_
                refine J_acmp_eq (tgt := 117) (rx := some (sgF T len (scS T len i) (scE T len i))) (ry := some 38) dX5_scan_110 rfl (fun q h => by cases h; exact sgF_lt _ _ _ _) (fun q h => by cases h; decide) (fun h110 => ?_) (fun h110 => ?_)
                · refine J_iconst (v := 0) dX5_scan_117 (by decide) ?_
                  refine J_istore_n (L' := [(2, _), (4, _), (1, _), (3, _), (0, _)]) dX5_scan_118 rfl (by decide) rfl ?_
                  refine J_aload_n dX5_scan_119 rfl rfl ?_
                  refine J_dup dX5_scan_120 rfl ?_
                  refine J_getf dX5_scan_121 fl_X5_32 (w9.at 0 rfl) rfl ?_
                  refine J_iconst (v := 1) dX5_scan_124 (by decide) ?_
                  refine J_iadd dX5_scan_125 ?_
                  refine J_putf dX5_scan_126 fp_X5_32 (fun _ => ⟨rfl, rfl⟩) (w9.at 0 rfl) (Nat.le_of_ble_eq_true rfl) ?_
                  refine J_gen (wT_s0_5 w9 _) (s9.put (by omega) (by omega) _) (fun A11 w11 s11 o11 => ?_)
                  refine J_goto (tgt := 9) dX5_scan_129 rfl ?_
                  refine J_iload_n dX5_scan_9 rfl rfl ?_
                  refine J_if_eq (tgt := 132) dX5_scan_10 rfl (fun h10 => ?_) (fun h10 => ?_)
                  · refine J_return dX5_scan_132 rfl (by decide) (by decide) ?_
                    exact ⟨rfl, rfl, i + 1, _, _, ⟨by omega, by omega, scn_s hscn hvg, fun q hq => hne q (by omega), by first | exact Or.inl (hvg.symm.trans (Option.some.inj h102)) | exact Or.inr (hvg.symm.trans (Option.some.inj h110))⟩, w11, s11⟩
                  · first | exact absurd h10 (by decide) | exact absurd (by decide) h10
                · refine J_iconst (v := 1) dX5_scan_113 (by decide) ?_
                  refine J_goto (tgt := 118) dX5_scan_114 rfl ?_
                  refine J_istore_n (L' := [(2, _), (4, _), (1, _), (3, _), (0, _)]) dX5_scan_118 rfl (by decide) rfl ?_
                  refine J_aload_n dX5_scan_119 rfl rfl ?_
                  refine J_dup dX5_scan_120 rfl ?_
                  refine J_getf dX5_scan_121 fl_X5_32 (w9.at 0 rfl) rfl ?_
                  refine J_iconst (v := 1) dX5_scan_124 (by decide) ?_
                  refine J_iadd dX5_scan_125 ?_
                  refine J_putf dX5_scan_126 fp_X5_32 (fun _ => ⟨rfl, rfl⟩) (w9.at 0 rfl) (Nat.le_of_ble_eq_true rfl) ?_
                  refine J_gen (wT_s0_5 w9 _) (s9.put (by omega) (by omega) _) (fun A12 w12 s12 o12 => ?_)
                  refine J_goto (tgt := 9) dX5_scan_129 rfl ?_
                  refine xx_J.pick [0, 2, 4] rfl ?_
                  exact ih _ _ _ _ rfl w12 s12 (scn_s hscn hvg) (fun q hq => by
                    by_cases e : q = i
                    · subst e; exact ⟨fun z => h102 (congrArg some (hvg.trans z)), fun z => h110 (congrArg some (hvg.trans z))⟩
                    · exact hne q (by omega))
            · refine J_gets (v := .ref 38) dX5_scan_61 (gs_mem 38 (by decide)) (show (38 : Nat) < 400 by decide) sl_X5_50 ?_
              refine J_astore (L' := [(4, _), (1, _), (3, _), (2, _), (0, _)]) dX5_scan_64 (by decide) rfl ?_
              have hvg : 38 = scG T len i := by
                unfold scG
                first
                  | (rw [if_neg (fun z => hi4 z.1)]; done)
                  | (rw [if_neg (fun z => z.2 (Option.some.inj h58))]; done)
                  | (rw [if_pos ⟨hi4, fun z => h58 (congrArg some z)⟩]; done)
              refine J_aload_n dX5_scan_66 rfl rfl ?_
              refine J_getf dX5_scan_67 fl_X5_21 (hT1.at 0 rfl) rfl ?_
              refine J_aload_n dX5_scan_70 rfl rfl ?_
              refine J_getf dX5_scan_71 fl_X5_32 (hT1.at 0 rfl) rfl ?_
              refine J_aload dX5_scan_74 rfl ?_
              refine J_aastN i dX5_scan_76 (hT1.at 2 rfl) hscn.1 (by omega) (by decide) (by first | exact sgF_lt _ _ _ _ | decide) ?_
              refine J_gen (wT_a2 hT1 _) (hs1.put (by omega) (by omega) _) (fun A13 w13 s13 o13 => ?_)
              refine J_aload_n dX5_scan_77 rfl rfl ?_
              refine J_getf dX5_scan_78 fl_X5_25 (w13.at 0 rfl) rfl ?_
              refine J_aload_n dX5_scan_81 rfl rfl ?_
              refine J_getf dX5_scan_82 fl_X5_32 (w13.at 0 rfl) rfl ?_
              refine J_iload_n dX5_scan_85 rfl rfl ?_
              refine J_iastN i dX5_scan_86 (w13.at 3 rfl) hscn.1 (by omega) (by decide) ?_
              refine J_gen (wT_a3 w13 _) (s13.put (by omega) (by omega) _) (fun A14 w14 s14 o14 => ?_)
              refine J_aload_n dX5_scan_87 rfl rfl ?_
              refine J_getf dX5_scan_88 fl_X5_29 (w14.at 0 rfl) rfl ?_
              refine J_aload_n dX5_scan_91 rfl rfl ?_
              refine J_getf dX5_scan_92 fl_X5_32 (w14.at 0 rfl) rfl ?_
              refine J_iload_n dX5_scan_95 rfl rfl ?_
              refine J_iastN i dX5_scan_96 (w14.at 4 rfl) hscn.1 (by omega) (by decide) ?_
              refine J_gen (wT_a4 w14 _) (s14.put (by omega) (by omega) _) (fun A15 w15 s15 o15 => ?_)
              refine J_aload dX5_scan_97 rfl ?_
              refine J_gets (v := .ref 37) dX5_scan_99 (gs_mem 37 (by decide)) (show (37 : Nat) < 400 by decide) sl_X5_46 ?_
              refine J_acmp_eq (tgt := 117) (rx := some 38) (ry := some 37) dX5_scan_102 rfl (fun q h => by cases h; decide) (fun q h => by cases h; decide) (fun h102 => ?_) (fun h102 => ?_)
              · refine J_iconst (v := 0) dX5_scan_117 (by decide) ?_
                refine J_istore_n (L' := [(2, _), (4, _), (1, _), (3, _), (0, _)]) dX5_scan_118 rfl (by decide) rfl ?_
                refine J_aload_n dX5_scan_119 rfl rfl ?_
                refine J_dup dX5_scan_120 rfl ?_
                refine J_getf dX5_scan_121 fl_X5_32 (w15.at 0 rfl) rfl ?_
                refine J_iconst (v := 1) dX5_scan_124 (by decide) ?_
                refine J_iadd dX5_scan_125 ?_
                refine J_putf dX5_scan_126 fp_X5_32 (fun _ => ⟨rfl, rfl⟩) (w15.at 0 rfl) (Nat.le_of_ble_eq_true rfl) ?_
                refine J_gen (wT_s0_5 w15 _) (s15.put (by omega) (by omega) _) (fun A16 w16 s16 o16 => ?_)
                refine J_goto (tgt := 9) dX5_scan_129 rfl ?_
                refine J_iload_n dX5_scan_9 rfl rfl ?_
                refine J_if_eq (tgt := 132) dX5_scan_10 rfl (fun h10 => ?_) (fun h10 => ?_)
                · refine J_return dX5_scan_132 rfl (by decide) (by decide) ?_
                  exact ⟨rfl, rfl, i + 1, _, _, ⟨by omega, by omega, scn_s hscn hvg, fun q hq => hne q (by omega), by first | exact Or.inl (hvg.symm.trans (Option.some.inj h102)) | exact Or.inr (hvg.symm.trans (Option.some.inj h110))⟩, w16, s16⟩
                · first | exact absurd h10 (by decide) | exact absurd (by decide) h10
              · refine J_aload dX5_scan_105 rfl ?_
                refine J_gets (v := .ref 38) dX5_scan_107 (gs_mem 38 (by decide)) (show (38 : Nat) < 400 by decide) sl_X5_50 ?_
                refine J_acmp_eq (tgt := 117) (rx := some 38) (ry := some 38) dX5_scan_110 rfl (fun q h => by cases h; decide) (fun q h => by cases h; decide) (fun h110 => ?_) (fun h110 => ?_)
                · refine J_iconst (v := 0) dX5_scan_117 (by decide) ?_
                  refine J_istore_n (L' := [(2, _), (4, _), (1, _), (3, _), (0, _)]) dX5_scan_118 rfl (by decide) rfl ?_
                  refine J_aload_n dX5_scan_119 rfl rfl ?_
                  refine J_dup dX5_scan_120 rfl ?_
                  refine J_getf dX5_scan_121 fl_X5_32 (w15.at 0 rfl) rfl ?_
                  refine J_iconst (v := 1) dX5_scan_124 (by decide) ?_
                  refine J_iadd dX5_scan_125 ?_
                  refine J_putf dX5_scan_126 fp_X5_32 (fun _ => ⟨rfl, rfl⟩) (w15.at 0 rfl) (Nat.le_of_ble_eq_true rfl) ?_
                  refine J_gen (wT_s0_5 w15 _) (s15.put (by omega) (by omega) _) (fun A17 w17 s17 o17 => ?_)
                  refine J_goto (tgt := 9) dX5_scan_129 rfl ?_
                  refine J_iload_n dX5_scan_9 rfl rfl ?_
                  refine J_if_eq (tgt := 132) dX5_scan_10 rfl (fun h10 => ?_) (fun h10 => ?_)
                  · refine J_return dX5_scan_132 rfl (by decide) (by decide) ?_
                    exact ⟨rfl, rfl, i + 1, _, _, ⟨by omega, by omega, scn_s hscn hvg, fun q hq => hne q (by omega), by first | exact Or.inl (hvg.symm.trans (Option.some.inj h102)) | exact Or.inr (hvg.symm.trans (Option.some.inj h110))⟩, w17, s17⟩
                  · first | exact absurd h10 (by decide) | exact absurd (by decide) h10
                · refine J_iconst (v := 1) dX5_scan_113 (by decide) ?_
                  refine J_goto (tgt := 118) dX5_scan_114 rfl ?_
                  refine J_istore_n (L' := [(2, _), (4, _), (1, _), (3, _), (0, _)]) dX5_scan_118 rfl (by decide) rfl ?_
                  refine J_aload_n dX5_scan_119 rfl rfl ?_
                  refine J_dup dX5_scan_120 rfl ?_
                  refine J_getf dX5_scan_121 fl_X5_32 (w15.at 0 rfl) rfl ?_
                  refine J_iconst (v := 1) dX5_scan_124 (by decide) ?_
                  refine J_iadd dX5_scan_125 ?_
                  refine J_putf dX5_scan_126 fp_X5_32 (fun _ => ⟨rfl, rfl⟩) (w15.at 0 rfl) (Nat.le_of_ble_eq_true rfl) ?_
                  refine J_gen (wT_s0_5 w15 _) (s15.put (by omega) (by omega) _) (fun A18 w18 s18 o18 => ?_)
                  refine J_goto (tgt := 9) dX5_scan_129 rfl ?_
                  refine xx_J.pick [0, 2, 4] rfl ?_
                  exact ih _ _ _ _ rfl w18 s18 (scn_s hscn hvg) (fun q hq => by
                    by_cases e : q = i
                    · subst e; exact ⟨fun z => h102 (congrArg some (hvg.trans z)), fun z => h110 (congrArg some (hvg.trans z))⟩
                    · exact hne q (by omega))
  exact loop 0 (by omega) _ _ sg _ rfl w9 s9 ⟨rfl, rfl, rfl, fun q hq => absurd hq (Nat.not_lt_zero q)⟩ (fun q hq => absurd hq (Nat.not_lt_zero q))
end XSC
