/-! READER: read -/
section XRE
variable {G : xx_G} {l : Launch} {A A' : xx_H} {n : Nat} {b : Nat} {D D1 D' T R R1 R' : xS} {sg : Nat → Option Nat} {T0 : xS} {len tok k : Nat}
def wrsP (T0 : xS) (len : Nat) (T : xS) (k nw : Nat) (nm : Nat → Nat) (D R D' R' : xS) : Prop := (fun D' R' => R' = R ∧ D'.2 14 = D.2 14 ∧ (D'.1 7, D'.1 8) = noteC (noteC (D.1 7, D.1 8) (if dupN T0 len nm k nw = true then 2 else if nw = 12 then 4 else 0) (T.2 3 k)) (if (tkN T0 len (k + 2)) < 1 ∨ 999 < (tkN T0 len (k + 2)) then 5 else 0) (T.2 3 (k + 2)) ∧ (nw < 12 → D'.1 5 = nI (nw + 1) ∧ D'.2 13 = upd (D.2 13) nw (nI k) ∧ D'.2 12 = upd (D.2 12) nw (tkN T0 len (k + 2))) ∧ (nw = 12 → D'.1 5 = nI 12 ∧ D'.2 = D.2)) D' R'
def ptsP (T0 : xS) (len : Nat) (T : xS) (k : Nat) (D R D' R' : xS) : Prop := (fun D' R' => R' = R ∧ D'.1 5 = D.1 5 ∧ D'.2 12 = D.2 12 ∧ D'.2 13 = D.2 13 ∧ D'.2 14 = upd (upd (upd (D.2 14) 0 (tkN T0 len k)) 1 (tkN T0 len (k + 1))) 2 (tkN T0 len (k + 2)) ∧ (D'.1 7, D'.1 8) = (noteC (noteC (noteC (D.1 7, D.1 8) (if (tkN T0 len k) < 0 ∨ 9 < (tkN T0 len k) then 5 else 0) (T.2 3 k)) (if (tkN T0 len (k + 1)) < 0 ∨ 9 < (tkN T0 len (k + 1)) then 5 else 0) (T.2 3 (k + 1))) (if (tkN T0 len (k + 2)) < 0 ∨ 9 < (tkN T0 len (k + 2)) then 5 else 0) (T.2 3 (k + 2)))) D' R'
def rulP (T0 : xS) (len : Nat) (T : xS) (k nr : Nat) (D R D' R' : xS) : Prop := (fun D' R' => D'.1 5 = D.1 5 ∧ D'.2 = D.2 ∧ (D'.1 7, D'.1 8) = noteC (D.1 7, D.1 8) (if nr = 16 then 4 else 0) (T.2 3 (k - 1)) ∧ (nr < 16 → R' = erF (emL R (ruEm T0 len k)) nr (oucW (scG T0 len) k).1) ∧ (nr = 16 → R' = emL R (ruEm T0 len k))) D' R'
theorem wrs_true {tk : Nat → Nat} {k : Nat} (h : (wrsW tk k).1 = true) : wrsW tk k = (true, k + 3, [(k, 1), (k + 2, 3)], []) := by
  unfold wrsW at h ⊢
  (repeat' split at h) <;> first | (simp at h; done) | (simp_all; done)
theorem pts_true {tk : Nat → Nat} {k : Nat} (h : (ptsW tk k).1 = true) : ptsW tk k = (true, k + 3, [(k, 4), (k + 1, 5), (k + 2, 6)], []) := by
  unfold ptsW at h ⊢
  (repeat' split at h) <;> first | (simp at h; done) | (simp_all; done)
theorem rul_true {k : Nat} (hn : nxt (scG T0 len) tok) (hk : k < tok) (h : (rulW (scG T0 len) (tkN T0 len) k).1 = true) : ∃ k', rulW (scG T0 len) (tkN T0 len) k = (true, k', [(k - 1, 2)], [((oucW (scG T0 len) k).1, ruEm T0 len k)]) ∧ (ruEm T0 len k).length + k ≤ k' ∧ k' < tok := by
  have a := ouc_ok (tk := scG T0 len) hn hk
  unfold rulW ruEm at *
  split at h
  · simp at h
  · rename_i h1
    split at h
    · rename_i h2
      have c := hn _ a.2 (by rw [h2]; decide) (by rw [h2]; decide)
      have e := ok_pT (num := tkN T0 len) hn _ c
      split at h
      · rename_i h3
        exact ⟨_, by rw [if_neg h1, if_pos h2, if_pos h3, if_pos h2], by rw [if_pos h2]; omega, e.2.1⟩
      · simp at h
    · rename_i h2
      exact ⟨_, by rw [if_neg h1, if_neg h2, if_neg h2], by rw [if_neg h2]; simp; exact a.1, a.2⟩
theorem pos_eq (h : scn T0 len tok sg T) {t : Nat} (ht : t < tok) : T.2 3 t = posT T0 len t := (h.2.2.2 t ht).2.1
theorem cl_w {its : List (Nat × Nat)} {rs : RuL} (h : clI T0 len tok its rs D1 R1) (hs : scn T0 len tok sg T) (hk : k + 1 + 2 < tok) (h0 : scG T0 len k = 0) (hok : (wrsW (scG T0 len) (k + 1)).1 = true) (hf : (flatR rs).length ≤ k) (hP : wrsP T0 len T (k + 1) (min (chkT T0 len its).1.length 12) (fun i => ((chkT T0 len its).1.getD i (0, 0)).1) (atD D1 (k + 1)) R1 D' R') : clI T0 len tok (its ++ (linW (scG T0 len) (tkN T0 len) k).2.2.1) (rs ++ (linW (scG T0 len) (tkN T0 len) k).2.2.2) D' R' ∧ (flatR (rs ++ (linW (scG T0 len) (tkN T0 len) k).2.2.2)).length ≤ (linW (scG T0 len) (tkN T0 len) k).2.1 := by
  have e : linW (scG T0 len) (tkN T0 len) k = (true, k + 1 + 3, [(k + 1, 1), (k + 1 + 2, 3)], []) := by unfold linW; rw [if_pos h0]; exact wrs_true hok
  rw [e]
  obtain ⟨p1, p2, p3, p4, p5⟩ := hP
  simp only [List.append_nil]
  exact ⟨clI_wrs h (by omega) p1 p2 (pos_eq hs (by omega)) (pos_eq hs (by omega)) p3 p4 p5, by omega⟩
theorem cl_p {its : List (Nat × Nat)} {rs : RuL} (h : clI T0 len tok its rs D1 R1) (hs : scn T0 len tok sg T) (hk : k + 1 + 2 < tok) (h0 : scG T0 len k = 2) (hok : (ptsW (scG T0 len) (k + 1)).1 = true) (hf : (flatR rs).length ≤ k) (hP : ptsP T0 len T (k + 1) (atD D1 (k + 1)) R1 D' R') : clI T0 len tok (its ++ (linW (scG T0 len) (tkN T0 len) k).2.2.1) (rs ++ (linW (scG T0 len) (tkN T0 len) k).2.2.2) D' R' ∧ (flatR (rs ++ (linW (scG T0 len) (tkN T0 len) k).2.2.2)).length ≤ (linW (scG T0 len) (tkN T0 len) k).2.1 := by
  have e : linW (scG T0 len) (tkN T0 len) k = (true, k + 1 + 3, [(k + 1, 4), (k + 1 + 1, 5), (k + 1 + 2, 6)], []) := by unfold linW; rw [if_neg (by omega), if_pos h0]; exact pts_true hok
  rw [e]
  obtain ⟨p1, p2, p3, p4, p5, p6⟩ := hP
  simp only [List.append_nil]
  exact ⟨clI_pts h p1 (pos_eq hs (by omega)) (pos_eq hs (by omega)) (pos_eq hs (by omega)) p2 p3 p4 p5 p6, by omega⟩
theorem cl_r {its : List (Nat × Nat)} {rs : RuL} (h : clI T0 len tok its rs D1 R1) (hs : scn T0 len tok sg T) (hn : nxt (scG T0 len) tok) (h401 : tok ≤ 401) (hk : k + 1 < tok) (h0 : scG T0 len k = 5) (hok : (rulW (scG T0 len) (tkN T0 len) (k + 1)).1 = true) (hf : (flatR rs).length ≤ k) (hP : rulP T0 len T (k + 1) (min rs.length 16) (atD D1 (k + 1)) R1 D' R') : clI T0 len tok (its ++ (linW (scG T0 len) (tkN T0 len) k).2.2.1) (rs ++ (linW (scG T0 len) (tkN T0 len) k).2.2.2) D' R' ∧ (flatR (rs ++ (linW (scG T0 len) (tkN T0 len) k).2.2.2)).length ≤ (linW (scG T0 len) (tkN T0 len) k).2.1 := by
  obtain ⟨k', e1, e2, e3⟩ := rul_true hn hk hok
  have e : linW (scG T0 len) (tkN T0 len) k = (true, k', [(k + 1 - 1, 2)], [((oucW (scG T0 len) (k + 1)).1, ruEm T0 len (k + 1))]) := by unfold linW; rw [if_neg (by omega), if_neg (by omega), if_pos h0]; exact e1
  rw [e]
  obtain ⟨p1, p2, p3, p4, p5⟩ := hP
  refine ⟨clI_rul h (by omega) (by omega) (pos_eq hs (by omega)) p1 p2 p3 p4 p5, ?_⟩
  rw [flatR_app, List.length_append]
  simp only [flatR, List.flatMap_cons, List.flatMap_nil, List.append_nil]
  have := hf
  unfold flatR at this
  omega
theorem clI_at {its : List (Nat × Nat)} {rs : RuL} {j : Nat} (h : clI T0 len tok its rs D R) : clI T0 len tok its rs (atD D j) R := h
set_option maxHeartbeats 8000000 in
theorem c_X2_read (hst : l.stackTraces = false) (hW0 : rdW b D T0 R sg A) (hlen : T0.1 1 = nI len) (h20 : len ≤ 2000) : xx_C G l yX2_read mX2_read 56 1496 0 0 [.ref b] A n (xx_wr (some (.int (rdV T0 len).1)) n (fun A' => ∃ tok sg' X D' R', tkc T0 len tok sg' X ∧ rdW b D' X R' sg' A' ∧ xx_same b (b + 15) A A' ∧ D'.1 7 = (rdV T0 len).1 ∧ D'.1 8 = (rdV T0 len).2 ∧ ((bokW (scG T0 len) (tkN T0 len) 401 0 [] []).1 = true → clI T0 len tok (bokW (scG T0 len) (tkN T0 len) 401 0 [] []).2.2.1 (bokW (scG T0 len) (tkN T0 len) 401 0 [] []).2.2.2 D' R'))) := by
  obtain ⟨hD0, hT0, hR0⟩ := id hW0
  refine J_C hst (by decide +kernel) rfl rfl rfl (Nat.le_of_ble_eq_true rfl) ?_
  show xx_J _ _ _ _ _ _ _ _ 0 [(0, _)] [] _ _ _ _
  refine J_aload_n dX2_read_0 rfl rfl ?_
  refine J_callVw (As := []) dX2_read_1 ml_X2_48 cal_X2_begin im_X2_begin se_X2_begin (hD0.at 0 rfl) rfl rfl rfl (Nat.le_of_ble_eq_true rfl) ⟨by decide, by decide⟩ ⟨by decide, by decide⟩ (c_X2_begin hst hW0 hlen h20) (fun A0 hQ0 => ?_)
  obtain ⟨tok, sg, X, DB, RB, hc, wB, sB, b5, b6, b7, b8, bw0, bw1, bw2, br0, br3⟩ := hQ0
  obtain ⟨hl1, hl2, ht0, ht1, hscn, hnx, hlast⟩ := id hc
  refine J_iconst (v := 1) dX2_read_4 (by decide) ?_
  refine J_istore_n (L' := [(1, _), (0, _)]) dX2_read_5 rfl (by decide) rfl ?_
  refine J_iconst (v := 0) dX2_read_6 (by decide) ?_
  refine J_istore_n (L' := [(2, _), (1, _), (0, _)]) dX2_read_7 rfl (by decide) rfl ?_
  have loop : ∀ f, ∀ (A1 : xx_H) (D1 R1 : xS) (k1 q : Nat) (its : List (Nat × Nat)) (rs : RuL) (x : Int32), x = nI q → 2 * q ≤ k1 → k1 < tok → 401 ≤ f + k1 → rdW b (atD D1 k1) X R1 sg A1 → xx_same b (b + 15) A A1 → D1.1 6 = D1.1 6 → clI T0 len tok its rs D1 R1 → (flatR rs).length ≤ k1 → (bokW (scG T0 len) (tkN T0 len) 401 0 [] []) = bokW (scG T0 len) (tkN T0 len) f k1 its rs → xx_J G l mX2_read 56 1496 0 0 (xx_wr (some (.int (rdV T0 len).1)) n (fun A' => ∃ tok sg' X D' R', tkc T0 len tok sg' X ∧ rdW b D' X R' sg' A' ∧ xx_same b (b + 15) A A' ∧ D'.1 7 = (rdV T0 len).1 ∧ D'.1 8 = (rdV T0 len).2 ∧ ((bokW (scG T0 len) (tkN T0 len) 401 0 [] []).1 = true → clI T0 len tok (bokW (scG T0 len) (tkN T0 len) 401 0 [] []).2.2.1 (bokW (scG T0 len) (tkN T0 len) 401 0 [] []).2.2.2 D' R'))) 8 [(1, .int 1), (2, .int x), (0, .ref b)] [] A1 n 0 0 := by
    intro f
    induction f with
    | zero => intro A1 D1 R1 k1 q its rs x hx hq hk hf; exfalso; omega
    | succ f ih =>
      intro A1 D1 R1 k1 q its rs x hx hq hk hf hW1 hs1 _ hcl hfl hv
      obtain ⟨hD1, hT1, hR1⟩ := hW1
      have ex : x.toInt = q := by rw [hx]; exact i_n (by omega)
      have e400 := i_400
      refine J_iload_n dX2_read_8 rfl rfl ?_
      refine J_if_eq (tgt := 112) dX2_read_9 rfl (fun h9 => ?_) (fun h9 => ?_)
      · first | exact absurd h9 (by decide) | exact absurd (by decide) h9
      · refine J_iload_n dX2_read_12 rfl rfl ?_
        refine J_sipush (v := 400) dX2_read_13 (by decide) ?_
        refine J_icmp_ge (tgt := 112) dX2_read_16 rfl (fun h16 => ?_) (fun h16 => ?_)
        · first | (exfalso; simp only [i_lt, i_le, i_eq, i_0, i_1, i_2, i_3, i_4, i_5, i_6, i_8, i_9, i_10, i_12, i_16, i_20, i_m1, i_400, i_2000] at h16; omega) | (exfalso; simp only [s_up, a_up, va_up, i_lt, i_le, i_eq, i_0, i_1, i_2, i_3, i_4, i_5, i_6, i_8, i_9, i_10, i_12, i_16, i_20, i_m1, i_400, i_2000, ↓reduceIte, Nat.reduceEqDiff] at h16; omega)
        · refine J_aload_n dX2_read_19 rfl rfl ?_
          refine J_gets (v := .ref 37) dX2_read_20 (gs_mem 37 (by decide)) (show (37 : Nat) < 400 by decide) sl_X2_51 ?_
          refine J_callVr (As := [_]) dX2_read_23 ml_X2_57 cal_X2_sees im_X2_sees se_X2_sees (hD1.at 0 rfl) rfl rfl rfl (Nat.le_of_ble_eq_true rfl) ⟨by decide, by decide⟩ ⟨by decide, by decide⟩ (c_X2_sees hst ⟨hD1, hT1, hR1⟩ hc hk (v := 37) (by decide)) ?_
          refine J_ifb_ne (tgt := 112) dX2_read_26 rfl (fun h26 => ?_) (fun h26 => ?_)
          · refine J_iload_n dX2_read_112 rfl rfl ?_
            refine J_if_ne (tgt := 136) dX2_read_113 rfl (fun h113 => ?_) (fun h113 => ?_)
            · refine J_aload_n dX2_read_136 rfl rfl ?_
              refine J_getf dX2_read_137 fl_X2_42 (hD1.at 0 rfl) rfl ?_
              refine J_ireturn dX2_read_140 rfl rfl (by decide) (by decide) ?_
              have e9 : (bokW (scG T0 len) (tkN T0 len) 401 0 [] []) = (true, k1, its, rs) := by rw [hv]; simp [bokW, h26]
              have e8 : rdV T0 len = (D1.1 7, D1.1 8) := by unfold rdV; rw [e9, hcl.2.2.2.2.1]; rfl
              rw [e8]
              exact ⟨rfl, rfl, tok, sg, X, _, _, hc, ⟨hD1, hT1, hR1⟩, hs1, rfl, rfl, fun _ => by rw [e9]; exact hcl⟩
            · first | exact absurd h113 (by decide) | exact absurd (by decide) h113
          · refine J_aload_n dX2_read_29 rfl rfl ?_
            refine J_gets (v := .ref 0) dX2_read_30 (gs_mem 0 (by decide)) (show (0 : Nat) < 400 by decide) sl_X2_61 ?_
            refine J_callVw (As := [_]) dX2_read_33 ml_X2_64 cal_X2_takes im_X2_takes se_X2_takes (hD1.at 0 rfl) rfl rfl rfl (Nat.le_of_ble_eq_true rfl) ⟨by decide, by decide⟩ ⟨by decide, by decide⟩ (c_X2_takes hst ⟨hD1, hT1, hR1⟩ hc hk (v := 0) (by decide)) (fun A101 hQ101 => ?_)
            obtain ⟨⟨wD101, wT101, wR101⟩, wS101⟩ := hQ101
            refine J_ifb_eq (tgt := 46) dX2_read_36 rfl (fun h36 => ?_) (fun h36 => ?_)
            · have th36 : ¬ (scG T0 len k1 = 0) := fun z => h36 (eat_t.mpr z)
              rw [eat_f2 th36] at wD101
              refine J_aload_n dX2_read_46 rfl rfl ?_
              refine J_gets (v := .ref 2) dX2_read_47 (gs_mem 2 (by decide)) (show (2 : Nat) < 400 by decide) sl_X2_71 ?_
              refine J_callVw (As := [_]) dX2_read_50 ml_X2_64 cal_X2_takes im_X2_takes se_X2_takes (wD101.at 0 rfl) rfl rfl rfl (Nat.le_of_ble_eq_true rfl) ⟨by decide, by decide⟩ ⟨by decide, by decide⟩ (c_X2_takes hst ⟨wD101, wT101, wR101⟩ hc hk (v := 2) (by decide)) (fun A102 hQ102 => ?_)
              obtain ⟨⟨wD102, wT102, wR102⟩, wS102⟩ := hQ102
              refine J_ifb_eq (tgt := 63) dX2_read_53 rfl (fun h53 => ?_) (fun h53 => ?_)
              · have th53 : ¬ (scG T0 len k1 = 2) := fun z => h53 (eat_t.mpr z)
                rw [eat_f2 th53] at wD102
                refine J_aload_n dX2_read_63 rfl rfl ?_
                refine J_gets (v := .ref 5) dX2_read_64 (gs_mem 5 (by decide)) (show (5 : Nat) < 400 by decide) sl_X2_77 ?_
                refine J_callVw (As := [_]) dX2_read_67 ml_X2_64 cal_X2_takes im_X2_takes se_X2_takes (wD102.at 0 rfl) rfl rfl rfl (Nat.le_of_ble_eq_true rfl) ⟨by decide, by decide⟩ ⟨by decide, by decide⟩ (c_X2_takes hst ⟨wD102, wT102, wR102⟩ hc hk (v := 5) (by decide)) (fun A103 hQ103 => ?_)
                obtain ⟨⟨wD103, wT103, wR103⟩, wS103⟩ := hQ103
                refine J_ifb_eq (tgt := 84) dX2_read_70 rfl (fun h70 => ?_) (fun h70 => ?_)
                · have th70 : ¬ (scG T0 len k1 = 5) := fun z => h70 (eat_t.mpr z)
                  rw [eat_f2 th70] at wD103
                  refine J_iconst (v := 0) dX2_read_84 (by decide) ?_
                  refine J_istore_n (L' := [(1, _), (2, _), (0, _)]) dX2_read_85 rfl (by decide) rfl ?_
                  refine J_iload_n dX2_read_86 rfl rfl ?_
                  refine J_if_eq (tgt := 104) dX2_read_87 rfl (fun h87 => ?_) (fun h87 => ?_)
                  · refine J_iconst (v := 0) dX2_read_104 (by decide) ?_
                    refine J_istore_n (L' := [(1, _), (2, _), (0, _)]) dX2_read_105 rfl (by decide) rfl ?_
                    refine J_iinc (v := _ + 1) (L' := [(2, _), (1, _), (0, _)]) dX2_read_106 rfl rfl (by decide) rfl ?_
                    refine J_goto (tgt := 8) dX2_read_109 rfl ?_
                    refine J_iload_n dX2_read_8 rfl rfl ?_
                    refine J_if_eq (tgt := 112) dX2_read_9 rfl (fun h9 => ?_) (fun h9 => ?_)
                    · refine J_iload_n dX2_read_112 rfl rfl ?_
                      refine J_if_ne (tgt := 136) dX2_read_113 rfl (fun h113 => ?_) (fun h113 => ?_)
                      · first | exact absurd h113 (by decide) | exact absurd (by decide) h113
                      · refine J_aload_n dX2_read_116 rfl rfl ?_
                        refine J_iconst (v := 1) dX2_read_117 (by decide) ?_
                        refine J_putf dX2_read_118 fp_X2_42 (fun _ => ⟨rfl, rfl⟩) (wD103.at 0 rfl) (Nat.le_of_ble_eq_true rfl) ?_
                        refine J_gen (wD_s0_7 wD103 _) ((((hs1.trans wS101).trans wS102).trans wS103).put (by omega) (by omega) _) (fun A144 w144 s144 o144 => ?_)
                        have w144R := wR103.o2 o144 (m := 6) rfl (by omega)
                        have w144T := wT103.o2 o144 (m := 5) rfl (by omega)
                        refine J_aload_n dX2_read_121 rfl rfl ?_
                        refine J_aload_n dX2_read_122 rfl rfl ?_
                        refine J_getf dX2_read_123 fl_X2_12 (w144.at 0 rfl) rfl ?_
                        refine J_aload_n dX2_read_126 rfl rfl ?_
                        refine J_getf dX2_read_127 fl_X2_39 (w144.at 0 rfl) rfl ?_
                        refine J_callVr (As := [_]) dX2_read_130 ml_X2_86 cal_X5_start im_X5_start se_X5_start (w144T.at 0 rfl) rfl rfl rfl (Nat.le_of_ble_eq_true rfl) ⟨by decide, by decide⟩ ⟨by decide, by decide⟩ (c_X5_start hst w144T hscn.1 ht1 (rfl : nI k1 = nI k1) hk) ?_
                        refine J_putf dX2_read_133 fp_X2_45 (fun _ => ⟨rfl, rfl⟩) (w144.at 0 rfl) (Nat.le_of_ble_eq_true rfl) ?_
                        refine J_gen (wD_s0_8 w144 _) (s144.put (by omega) (by omega) _) (fun A145 w145 s145 o145 => ?_)
                        have w145R := w144R.o2 o145 (m := 6) rfl (by omega)
                        have w145T := w144T.o2 o145 (m := 5) rfl (by omega)
                        refine J_aload_n dX2_read_136 rfl rfl ?_
                        refine J_getf dX2_read_137 fl_X2_42 (w145.at 0 rfl) rfl ?_
                        refine J_ireturn dX2_read_140 rfl rfl (by decide) (by decide) ?_
                        have e9 : (bokW (scG T0 len) (tkN T0 len) 401 0 [] []) = (false, k1, its, rs) := by rw [hv]; simp [bokW, linW, h26, th36, th53, th70]
                        have e8 : rdV T0 len = (1, posT T0 len k1) := by unfold rdV; rw [e9]; rfl
                        rw [e8]
                        exact ⟨rfl, rfl, tok, sg, X, _, _, hc, ⟨w145, w145T, w145R⟩, s145, rfl, pos_eq hscn hk, fun z => by rw [e9] at z; exact absurd z Bool.false_ne_true⟩
                    · first | exact absurd h9 (by decide) | exact absurd (by decide) h9
                  · first | exact absurd h87 (by decide) | exact absurd (by decide) h87
                · have th70 := (eat_t.mp h70)
                  rw [eat_t2 th70] at wD103
                  have kh70 : k1 + 1 < tok := hnx _ hk (by rw [th70]; decide) (by rw [th70]; decide)
                  refine J_aload_n dX2_read_73 rfl rfl ?_
                  refine J_callVw (As := []) dX2_read_74 ml_X2_80 cal_X2_readRule im_X2_readRule se_X2_readRule (wD103.at 0 rfl) rfl rfl rfl (Nat.le_of_ble_eq_true rfl) ⟨by decide, by decide⟩ ⟨by decide, by decide⟩ (c_X2_readRule (D := atD D1 (k1 + 1)) hst ⟨wD103, wT103, wR103⟩ hc rfl kh70 (by omega) hcl.2.2.2.2.2.2.1 (Nat.min_le_right _ _) hcl.2.2.2.2.2.2.2.1 (by omega)) (fun A104 hQ104 => ?_)
                  obtain ⟨D104, R104, ⟨wD104, wT104, wR104⟩, wS104, hat104, hP104⟩ := hQ104
                  have hk104 := rul_ok (num := tkN T0 len) (tk := scG T0 len) hnx kh70
                  have wD104b := wD_at wD104 hat104
                  refine J_ifb_eq (tgt := 84) dX2_read_77 rfl (fun h77 => ?_) (fun h77 => ?_)
                  · refine J_iconst (v := 0) dX2_read_84 (by decide) ?_
                    refine J_istore_n (L' := [(1, _), (2, _), (0, _)]) dX2_read_85 rfl (by decide) rfl ?_
                    refine J_iload_n dX2_read_86 rfl rfl ?_
                    refine J_if_eq (tgt := 104) dX2_read_87 rfl (fun h87 => ?_) (fun h87 => ?_)
                    · refine J_iconst (v := 0) dX2_read_104 (by decide) ?_
                      refine J_istore_n (L' := [(1, _), (2, _), (0, _)]) dX2_read_105 rfl (by decide) rfl ?_
                      refine J_iinc (v := _ + 1) (L' := [(2, _), (1, _), (0, _)]) dX2_read_106 rfl rfl (by decide) rfl ?_
                      refine J_goto (tgt := 8) dX2_read_109 rfl ?_
                      refine J_iload_n dX2_read_8 rfl rfl ?_
                      refine J_if_eq (tgt := 112) dX2_read_9 rfl (fun h9 => ?_) (fun h9 => ?_)
                      · refine J_iload_n dX2_read_112 rfl rfl ?_
                        refine J_if_ne (tgt := 136) dX2_read_113 rfl (fun h113 => ?_) (fun h113 => ?_)
                        · first | exact absurd h113 (by decide) | exact absurd (by decide) h113
                        · refine J_aload_n dX2_read_116 rfl rfl ?_
                          refine J_iconst (v := 1) dX2_read_117 (by decide) ?_
                          refine J_putf dX2_read_118 fp_X2_42 (fun _ => ⟨rfl, rfl⟩) (wD104b.at 0 rfl) (Nat.le_of_ble_eq_true rfl) ?_
                          refine J_gen (wD_s0_7 wD104b _) (((((hs1.trans wS101).trans wS102).trans wS103).trans wS104).put (by omega) (by omega) _) (fun A145 w145 s145 o145 => ?_)
                          have w145R := wR104.o2 o145 (m := 6) rfl (by omega)
                          have w145T := wT104.o2 o145 (m := 5) rfl (by omega)
                          refine J_aload_n dX2_read_121 rfl rfl ?_
                          refine J_aload_n dX2_read_122 rfl rfl ?_
                          refine J_getf dX2_read_123 fl_X2_12 (w145.at 0 rfl) rfl ?_
                          refine J_aload_n dX2_read_126 rfl rfl ?_
                          refine J_getf dX2_read_127 fl_X2_39 (w145.at 0 rfl) rfl ?_
                          refine J_callVr (As := [_]) dX2_read_130 ml_X2_86 cal_X5_start im_X5_start se_X5_start (w145T.at 0 rfl) rfl rfl rfl (Nat.le_of_ble_eq_true rfl) ⟨by decide, by decide⟩ ⟨by decide, by decide⟩ (c_X5_start hst w145T hscn.1 ht1 (rfl : nI (rulW (scG T0 len) (tkN T0 len) (k1 + 1)).2.1 = nI (rulW (scG T0 len) (tkN T0 len) (k1 + 1)).2.1) hk104.2) ?_
                          refine J_putf dX2_read_133 fp_X2_45 (fun _ => ⟨rfl, rfl⟩) (w145.at 0 rfl) (Nat.le_of_ble_eq_true rfl) ?_
                          refine J_gen (wD_s0_8 w145 _) (s145.put (by omega) (by omega) _) (fun A146 w146 s146 o146 => ?_)
                          have w146R := w145R.o2 o146 (m := 6) rfl (by omega)
                          have w146T := w145T.o2 o146 (m := 5) rfl (by omega)
                          refine J_aload_n dX2_read_136 rfl rfl ?_
                          refine J_getf dX2_read_137 fl_X2_42 (w146.at 0 rfl) rfl ?_
                          refine J_ireturn dX2_read_140 rfl rfl (by decide) (by decide) ?_
                          have e9 : (bokW (scG T0 len) (tkN T0 len) 401 0 [] []) = (false, (rulW (scG T0 len) (tkN T0 len) (k1 + 1)).2.1, its, rs) := by rw [hv]; simp [bokW, linW, h26, th36, th53, th70, h77]
                          have e8 : rdV T0 len = (1, posT T0 len (rulW (scG T0 len) (tkN T0 len) (k1 + 1)).2.1) := by unfold rdV; rw [e9]; rfl
                          rw [e8]
                          exact ⟨rfl, rfl, tok, sg, X, _, _, hc, ⟨w146, w146T, w146R⟩, s146, rfl, pos_eq hscn hk104.2, fun z => by rw [e9] at z; exact absurd z Bool.false_ne_true⟩
                      · first | exact absurd h9 (by decide) | exact absurd (by decide) h9
                    · first | exact absurd h87 (by decide) | exact absurd (by decide) h87
                  · have hg77 : k1 + 1 ≤ (rulW (scG T0 len) (tkN T0 len) (k1 + 1)).2.1 := hk104.1
                    refine J_iconst (v := 1) dX2_read_80 (by decide) ?_
                    refine J_goto (tgt := 85) dX2_read_81 rfl ?_
                    refine J_istore_n (L' := [(1, _), (2, _), (0, _)]) dX2_read_85 rfl (by decide) rfl ?_
                    refine J_iload_n dX2_read_86 rfl rfl ?_
                    refine J_if_eq (tgt := 104) dX2_read_87 rfl (fun h87 => ?_) (fun h87 => ?_)
                    · first | exact absurd h87 (by decide) | exact absurd (by decide) h87
                    · refine J_aload_n dX2_read_90 rfl rfl ?_
                      refine J_gets (v := .ref 24) dX2_read_91 (gs_mem 24 (by decide)) (show (24 : Nat) < 400 by decide) sl_X2_83 ?_
                      refine J_callVw (As := [_]) dX2_read_94 ml_X2_64 cal_X2_takes im_X2_takes se_X2_takes (wD104b.at 0 rfl) rfl rfl rfl (Nat.le_of_ble_eq_true rfl) ⟨by decide, by decide⟩ ⟨by decide, by decide⟩ (c_X2_takes hst ⟨wD104b, wT104, wR104⟩ hc hk104.2 (v := 24) (by decide)) (fun A105 hQ105 => ?_)
                      obtain ⟨⟨wD105, wT105, wR105⟩, wS105⟩ := hQ105
                      refine J_ifb_eq (tgt := 104) dX2_read_97 rfl (fun h97 => ?_) (fun h97 => ?_)
                      · have th97 : ¬ (scG T0 len (rulW (scG T0 len) (tkN T0 len) (k1 + 1)).2.1 = 24) := fun z => h97 (eat_t.mpr z)
                        rw [eat_f2 th97] at wD105
                        refine J_iconst (v := 0) dX2_read_104 (by decide) ?_
                        refine J_istore_n (L' := [(1, _), (2, _), (0, _)]) dX2_read_105 rfl (by decide) rfl ?_
                        refine J_iinc (v := _ + 1) (L' := [(2, _), (1, _), (0, _)]) dX2_read_106 rfl rfl (by decide) rfl ?_
                        refine J_goto (tgt := 8) dX2_read_109 rfl ?_
                        refine J_iload_n dX2_read_8 rfl rfl ?_
                        refine J_if_eq (tgt := 112) dX2_read_9 rfl (fun h9 => ?_) (fun h9 => ?_)
                        · refine J_iload_n dX2_read_112 rfl rfl ?_
                          refine J_if_ne (tgt := 136) dX2_read_113 rfl (fun h113 => ?_) (fun h113 => ?_)
                          · first | exact absurd h113 (by decide) | exact absurd (by decide) h113
                          · refine J_aload_n dX2_read_116 rfl rfl ?_
                            refine J_iconst (v := 1) dX2_read_117 (by decide) ?_
                            refine J_putf dX2_read_118 fp_X2_42 (fun _ => ⟨rfl, rfl⟩) (wD105.at 0 rfl) (Nat.le_of_ble_eq_true rfl) ?_
                            refine J_gen (wD_s0_7 wD105 _) ((((((hs1.trans wS101).trans wS102).trans wS103).trans wS104).trans wS105).put (by omega) (by omega) _) (fun A146 w146 s146 o146 => ?_)
                            have w146R := wR105.o2 o146 (m := 6) rfl (by omega)
                            have w146T := wT105.o2 o146 (m := 5) rfl (by omega)
                            refine J_aload_n dX2_read_121 rfl rfl ?_
                            refine J_aload_n dX2_read_122 rfl rfl ?_
                            refine J_getf dX2_read_123 fl_X2_12 (w146.at 0 rfl) rfl ?_
                            refine J_aload_n dX2_read_126 rfl rfl ?_
                            refine J_getf dX2_read_127 fl_X2_39 (w146.at 0 rfl) rfl ?_
                            refine J_callVr (As := [_]) dX2_read_130 ml_X2_86 cal_X5_start im_X5_start se_X5_start (w146T.at 0 rfl) rfl rfl rfl (Nat.le_of_ble_eq_true rfl) ⟨by decide, by decide⟩ ⟨by decide, by decide⟩ (c_X5_start hst w146T hscn.1 ht1 (rfl : nI (rulW (scG T0 len) (tkN T0 len) (k1 + 1)).2.1 = nI (rulW (scG T0 len) (tkN T0 len) (k1 + 1)).2.1) hk104.2) ?_
                            refine J_putf dX2_read_133 fp_X2_45 (fun _ => ⟨rfl, rfl⟩) (w146.at 0 rfl) (Nat.le_of_ble_eq_true rfl) ?_
                            refine J_gen (wD_s0_8 w146 _) (s146.put (by omega) (by omega) _) (fun A147 w147 s147 o147 => ?_)
                            have w147R := w146R.o2 o147 (m := 6) rfl (by omega)
                            have w147T := w146T.o2 o147 (m := 5) rfl (by omega)
                            refine J_aload_n dX2_read_136 rfl rfl ?_
                            refine J_getf dX2_read_137 fl_X2_42 (w147.at 0 rfl) rfl ?_
                            refine J_ireturn dX2_read_140 rfl rfl (by decide) (by decide) ?_
                            have e9 : (bokW (scG T0 len) (tkN T0 len) 401 0 [] []) = (false, (rulW (scG T0 len) (tkN T0 len) (k1 + 1)).2.1, its, rs) := by rw [hv]; simp [bokW, linW, h26, th36, th53, th70, h77, th97]
                            have e8 : rdV T0 len = (1, posT T0 len (rulW (scG T0 len) (tkN T0 len) (k1 + 1)).2.1) := by unfold rdV; rw [e9]; rfl
                            rw [e8]
                            exact ⟨rfl, rfl, tok, sg, X, _, _, hc, ⟨w147, w147T, w147R⟩, s147, rfl, pos_eq hscn hk104.2, fun z => by rw [e9] at z; exact absurd z Bool.false_ne_true⟩
                        · first | exact absurd h9 (by decide) | exact absurd (by decide) h9
                      · have th97 := (eat_t.mp h97)
                        rw [eat_t2 th97] at wD105
                        have kh97 : (rulW (scG T0 len) (tkN T0 len) (k1 + 1)).2.1 + 1 < tok := hnx _ hk104.2 (by rw [th97]; decide) (by rw [th97]; decide)
                        refine J_iconst (v := 1) dX2_read_100 (by decide) ?_
                        refine J_goto (tgt := 105) dX2_read_101 rfl ?_
                        refine J_istore_n (L' := [(1, _), (2, _), (0, _)]) dX2_read_105 rfl (by decide) rfl ?_
                        refine J_iinc (v := _ + 1) (L' := [(2, _), (1, _), (0, _)]) dX2_read_106 rfl rfl (by decide) rfl ?_
                        refine J_goto (tgt := 8) dX2_read_109 rfl ?_
                        have hk1e : k1 + 1 < tok := kh70
                        have eL : (linW (scG T0 len) (tkN T0 len) k1) = rulW (scG T0 len) (tkN T0 len) (k1 + 1) := by unfold linW; simp [h26, th36, th53, th70, h77, th97]
                        obtain ⟨c1, c2⟩ := cl_r hcl hscn hnx ht1 hk1e th70 h77 hfl (hP104 h77)
                        rw [eL] at c1 c2
                        refine xx_J.pick [1, 0, 2] rfl ?_
                        exact ih _ D104 R104 ((rulW (scG T0 len) (tkN T0 len) (k1 + 1)).2.1 + 1) (q + 1) _ _ _ (by rw [hx]; exact nI_1 q) (by omega) kh97 (by omega) ⟨wD105, wT105, wR105⟩ (((((hs1.trans wS101).trans wS102).trans wS103).trans wS104).trans wS105) rfl c1 (by omega) (by rw [hv]; simp [bokW, h26, th36, th53, th70, h77, th97, eL])
              · have th53 := (eat_t.mp h53)
                rw [eat_t2 th53] at wD102
                have kh53 : k1 + 1 < tok := hnx _ hk (by rw [th53]; decide) (by rw [th53]; decide)
                refine J_aload_n dX2_read_56 rfl rfl ?_
                refine J_callVw (As := []) dX2_read_57 ml_X2_74 cal_X2_readPoints im_X2_readPoints se_X2_readPoints (wD102.at 0 rfl) rfl rfl rfl (Nat.le_of_ble_eq_true rfl) ⟨by decide, by decide⟩ ⟨by decide, by decide⟩ (c_X2_readPoints (D := atD D1 (k1 + 1)) hst ⟨wD102, wT102, wR102⟩ hc rfl kh53) (fun A106 hQ106 => ?_)
                obtain ⟨D106, R106, ⟨wD106, wT106, wR106⟩, wS106, hat106, hP106⟩ := hQ106
                have hk106 := pts_ok (tk := scG T0 len) hnx kh53
                have wD106b := wD_at wD106 hat106
                refine J_goto (tgt := 85) dX2_read_60 rfl ?_
                refine J_istore_n (L' := [(1, _), (2, _), (0, _)]) dX2_read_85 rfl (by decide) rfl ?_
                refine J_iload_n dX2_read_86 rfl rfl ?_
                refine J_ifb_eq (tgt := 104) dX2_read_87 rfl (fun h87 => ?_) (fun h87 => ?_)
                · refine J_iconst (v := 0) dX2_read_104 (by decide) ?_
                  refine J_istore_n (L' := [(1, _), (2, _), (0, _)]) dX2_read_105 rfl (by decide) rfl ?_
                  refine J_iinc (v := _ + 1) (L' := [(2, _), (1, _), (0, _)]) dX2_read_106 rfl rfl (by decide) rfl ?_
                  refine J_goto (tgt := 8) dX2_read_109 rfl ?_
                  refine J_iload_n dX2_read_8 rfl rfl ?_
                  refine J_if_eq (tgt := 112) dX2_read_9 rfl (fun h9 => ?_) (fun h9 => ?_)
                  · refine J_iload_n dX2_read_112 rfl rfl ?_
                    refine J_if_ne (tgt := 136) dX2_read_113 rfl (fun h113 => ?_) (fun h113 => ?_)
                    · first | exact absurd h113 (by decide) | exact absurd (by decide) h113
                    · refine J_aload_n dX2_read_116 rfl rfl ?_
                      refine J_iconst (v := 1) dX2_read_117 (by decide) ?_
                      refine J_putf dX2_read_118 fp_X2_42 (fun _ => ⟨rfl, rfl⟩) (wD106b.at 0 rfl) (Nat.le_of_ble_eq_true rfl) ?_
                      refine J_gen (wD_s0_7 wD106b _) ((((hs1.trans wS101).trans wS102).trans wS106).put (by omega) (by omega) _) (fun A147 w147 s147 o147 => ?_)
                      have w147R := wR106.o2 o147 (m := 6) rfl (by omega)
                      have w147T := wT106.o2 o147 (m := 5) rfl (by omega)
                      refine J_aload_n dX2_read_121 rfl rfl ?_
                      refine J_aload_n dX2_read_122 rfl rfl ?_
                      refine J_getf dX2_read_123 fl_X2_12 (w147.at 0 rfl) rfl ?_
                      refine J_aload_n dX2_read_126 rfl rfl ?_
                      refine J_getf dX2_read_127 fl_X2_39 (w147.at 0 rfl) rfl ?_
                      refine J_callVr (As := [_]) dX2_read_130 ml_X2_86 cal_X5_start im_X5_start se_X5_start (w147T.at 0 rfl) rfl rfl rfl (Nat.le_of_ble_eq_true rfl) ⟨by decide, by decide⟩ ⟨by decide, by decide⟩ (c_X5_start hst w147T hscn.1 ht1 (rfl : nI (ptsW (scG T0 len) (k1 + 1)).2.1 = nI (ptsW (scG T0 len) (k1 + 1)).2.1) hk106.2) ?_
                      refine J_putf dX2_read_133 fp_X2_45 (fun _ => ⟨rfl, rfl⟩) (w147.at 0 rfl) (Nat.le_of_ble_eq_true rfl) ?_
                      refine J_gen (wD_s0_8 w147 _) (s147.put (by omega) (by omega) _) (fun A148 w148 s148 o148 => ?_)
                      have w148R := w147R.o2 o148 (m := 6) rfl (by omega)
                      have w148T := w147T.o2 o148 (m := 5) rfl (by omega)
                      refine J_aload_n dX2_read_136 rfl rfl ?_
                      refine J_getf dX2_read_137 fl_X2_42 (w148.at 0 rfl) rfl ?_
                      refine J_ireturn dX2_read_140 rfl rfl (by decide) (by decide) ?_
                      have e9 : (bokW (scG T0 len) (tkN T0 len) 401 0 [] []) = (false, (ptsW (scG T0 len) (k1 + 1)).2.1, its, rs) := by rw [hv]; simp [bokW, linW, h26, th36, th53, h87]
                      have e8 : rdV T0 len = (1, posT T0 len (ptsW (scG T0 len) (k1 + 1)).2.1) := by unfold rdV; rw [e9]; rfl
                      rw [e8]
                      exact ⟨rfl, rfl, tok, sg, X, _, _, hc, ⟨w148, w148T, w148R⟩, s148, rfl, pos_eq hscn hk106.2, fun z => by rw [e9] at z; exact absurd z Bool.false_ne_true⟩
                  · first | exact absurd h9 (by decide) | exact absurd (by decide) h9
                · have hg87 : k1 + 1 ≤ (ptsW (scG T0 len) (k1 + 1)).2.1 := hk106.1
                  refine J_aload_n dX2_read_90 rfl rfl ?_
                  refine J_gets (v := .ref 24) dX2_read_91 (gs_mem 24 (by decide)) (show (24 : Nat) < 400 by decide) sl_X2_83 ?_
                  refine J_callVw (As := [_]) dX2_read_94 ml_X2_64 cal_X2_takes im_X2_takes se_X2_takes (wD106b.at 0 rfl) rfl rfl rfl (Nat.le_of_ble_eq_true rfl) ⟨by decide, by decide⟩ ⟨by decide, by decide⟩ (c_X2_takes hst ⟨wD106b, wT106, wR106⟩ hc hk106.2 (v := 24) (by decide)) (fun A107 hQ107 => ?_)
                  obtain ⟨⟨wD107, wT107, wR107⟩, wS107⟩ := hQ107
                  refine J_ifb_eq (tgt := 104) dX2_read_97 rfl (fun h97 => ?_) (fun h97 => ?_)
                  · have th97 : ¬ (scG T0 len (ptsW (scG T0 len) (k1 + 1)).2.1 = 24) := fun z => h97 (eat_t.mpr z)
                    rw [eat_f2 th97] at wD107
                    refine J_iconst (v := 0) dX2_read_104 (by decide) ?_
                    refine J_istore_n (L' := [(1, _), (2, _), (0, _)]) dX2_read_105 rfl (by decide) rfl ?_
                    refine J_iinc (v := _ + 1) (L' := [(2, _), (1, _), (0, _)]) dX2_read_106 rfl rfl (by decide) rfl ?_
                    refine J_goto (tgt := 8) dX2_read_109 rfl ?_
                    refine J_iload_n dX2_read_8 rfl rfl ?_
                    refine J_if_eq (tgt := 112) dX2_read_9 rfl (fun h9 => ?_) (fun h9 => ?_)
                    · refine J_iload_n dX2_read_112 rfl rfl ?_
                      refine J_if_ne (tgt := 136) dX2_read_113 rfl (fun h113 => ?_) (fun h113 => ?_)
                      · first | exact absurd h113 (by decide) | exact absurd (by decide) h113
                      · refine J_aload_n dX2_read_116 rfl rfl ?_
                        refine J_iconst (v := 1) dX2_read_117 (by decide) ?_
                        refine J_putf dX2_read_118 fp_X2_42 (fun _ => ⟨rfl, rfl⟩) (wD107.at 0 rfl) (Nat.le_of_ble_eq_true rfl) ?_
                        refine J_gen (wD_s0_7 wD107 _) (((((hs1.trans wS101).trans wS102).trans wS106).trans wS107).put (by omega) (by omega) _) (fun A148 w148 s148 o148 => ?_)
                        have w148R := wR107.o2 o148 (m := 6) rfl (by omega)
                        have w148T := wT107.o2 o148 (m := 5) rfl (by omega)
                        refine J_aload_n dX2_read_121 rfl rfl ?_
                        refine J_aload_n dX2_read_122 rfl rfl ?_
                        refine J_getf dX2_read_123 fl_X2_12 (w148.at 0 rfl) rfl ?_
                        refine J_aload_n dX2_read_126 rfl rfl ?_
                        refine J_getf dX2_read_127 fl_X2_39 (w148.at 0 rfl) rfl ?_
                        refine J_callVr (As := [_]) dX2_read_130 ml_X2_86 cal_X5_start im_X5_start se_X5_start (w148T.at 0 rfl) rfl rfl rfl (Nat.le_of_ble_eq_true rfl) ⟨by decide, by decide⟩ ⟨by decide, by decide⟩ (c_X5_start hst w148T hscn.1 ht1 (rfl : nI (ptsW (scG T0 len) (k1 + 1)).2.1 = nI (ptsW (scG T0 len) (k1 + 1)).2.1) hk106.2) ?_
                        refine J_putf dX2_read_133 fp_X2_45 (fun _ => ⟨rfl, rfl⟩) (w148.at 0 rfl) (Nat.le_of_ble_eq_true rfl) ?_
                        refine J_gen (wD_s0_8 w148 _) (s148.put (by omega) (by omega) _) (fun A149 w149 s149 o149 => ?_)
                        have w149R := w148R.o2 o149 (m := 6) rfl (by omega)
                        have w149T := w148T.o2 o149 (m := 5) rfl (by omega)
                        refine J_aload_n dX2_read_136 rfl rfl ?_
                        refine J_getf dX2_read_137 fl_X2_42 (w149.at 0 rfl) rfl ?_
                        refine J_ireturn dX2_read_140 rfl rfl (by decide) (by decide) ?_
                        have e9 : (bokW (scG T0 len) (tkN T0 len) 401 0 [] []) = (false, (ptsW (scG T0 len) (k1 + 1)).2.1, its, rs) := by rw [hv]; simp [bokW, linW, h26, th36, th53, h87, th97]
                        have e8 : rdV T0 len = (1, posT T0 len (ptsW (scG T0 len) (k1 + 1)).2.1) := by unfold rdV; rw [e9]; rfl
                        rw [e8]
                        exact ⟨rfl, rfl, tok, sg, X, _, _, hc, ⟨w149, w149T, w149R⟩, s149, rfl, pos_eq hscn hk106.2, fun z => by rw [e9] at z; exact absurd z Bool.false_ne_true⟩
                    · first | exact absurd h9 (by decide) | exact absurd (by decide) h9
                  · have th97 := (eat_t.mp h97)
                    rw [eat_t2 th97] at wD107
                    have kh97 : (ptsW (scG T0 len) (k1 + 1)).2.1 + 1 < tok := hnx _ hk106.2 (by rw [th97]; decide) (by rw [th97]; decide)
                    refine J_iconst (v := 1) dX2_read_100 (by decide) ?_
                    refine J_goto (tgt := 105) dX2_read_101 rfl ?_
                    refine J_istore_n (L' := [(1, _), (2, _), (0, _)]) dX2_read_105 rfl (by decide) rfl ?_
                    refine J_iinc (v := _ + 1) (L' := [(2, _), (1, _), (0, _)]) dX2_read_106 rfl rfl (by decide) rfl ?_
                    refine J_goto (tgt := 8) dX2_read_109 rfl ?_
                    have ek9 : (ptsW (scG T0 len) (k1 + 1)).2.1 = (k1 + 1) + 3 := by rw [pts_true h87]
                    have hk2e : k1 + 1 + 2 < tok := by have := hk106.2; rw [ek9] at this; omega
                    have eL : (linW (scG T0 len) (tkN T0 len) k1) = ptsW (scG T0 len) (k1 + 1) := by unfold linW; simp [h26, th36, th53, h87, th97]
                    obtain ⟨c1, c2⟩ := cl_p hcl hscn hk2e th53 h87 hfl (hP106 h87)
                    rw [eL] at c1 c2
                    refine xx_J.pick [1, 0, 2] rfl ?_
                    exact ih _ D106 R106 ((ptsW (scG T0 len) (k1 + 1)).2.1 + 1) (q + 1) _ _ _ (by rw [hx]; exact nI_1 q) (by omega) kh97 (by omega) ⟨wD107, wT107, wR107⟩ ((((hs1.trans wS101).trans wS102).trans wS106).trans wS107) rfl c1 (by omega) (by rw [hv]; simp [bokW, h26, th36, th53, h87, th97, eL])
            · have th36 := (eat_t.mp h36)
              rw [eat_t2 th36] at wD101
              have kh36 : k1 + 1 < tok := hnx _ hk (by rw [th36]; decide) (by rw [th36]; decide)
              refine J_aload_n dX2_read_39 rfl rfl ?_
              refine J_callVw (As := []) dX2_read_40 ml_X2_67 cal_X2_readWrestler im_X2_readWrestler se_X2_readWrestler (wD101.at 0 rfl) rfl rfl rfl (Nat.le_of_ble_eq_true rfl) ⟨by decide, by decide⟩ ⟨by decide, by decide⟩ (c_X2_readWrestler (D := atD D1 (k1 + 1)) hst ⟨wD101, wT101, wR101⟩ hc rfl kh36 hcl.1 (Nat.min_le_right _ _) (nm := fun i => ((chkT T0 len its).1.getD i (0, 0)).1) (fun i hi => ⟨(hcl.2.1 i (by omega) (by omega)).1, hcl.2.2.1 i (by omega)⟩)) (fun A108 hQ108 => ?_)
              obtain ⟨D108, R108, ⟨wD108, wT108, wR108⟩, wS108, hat108, hP108⟩ := hQ108
              have hk108 := wrs_ok (tk := scG T0 len) hnx kh36
              have wD108b := wD_at wD108 hat108
              refine J_goto (tgt := 85) dX2_read_43 rfl ?_
              refine J_istore_n (L' := [(1, _), (2, _), (0, _)]) dX2_read_85 rfl (by decide) rfl ?_
              refine J_iload_n dX2_read_86 rfl rfl ?_
              refine J_ifb_eq (tgt := 104) dX2_read_87 rfl (fun h87 => ?_) (fun h87 => ?_)
              · refine J_iconst (v := 0) dX2_read_104 (by decide) ?_
                refine J_istore_n (L' := [(1, _), (2, _), (0, _)]) dX2_read_105 rfl (by decide) rfl ?_
                refine J_iinc (v := _ + 1) (L' := [(2, _), (1, _), (0, _)]) dX2_read_106 rfl rfl (by decide) rfl ?_
                refine J_goto (tgt := 8) dX2_read_109 rfl ?_
                refine J_iload_n dX2_read_8 rfl rfl ?_
                refine J_if_eq (tgt := 112) dX2_read_9 rfl (fun h9 => ?_) (fun h9 => ?_)
                · refine J_iload_n dX2_read_112 rfl rfl ?_
                  refine J_if_ne (tgt := 136) dX2_read_113 rfl (fun h113 => ?_) (fun h113 => ?_)
                  · first | exact absurd h113 (by decide) | exact absurd (by decide) h113
                  · refine J_aload_n dX2_read_116 rfl rfl ?_
                    refine J_iconst (v := 1) dX2_read_117 (by decide) ?_
                    refine J_putf dX2_read_118 fp_X2_42 (fun _ => ⟨rfl, rfl⟩) (wD108b.at 0 rfl) (Nat.le_of_ble_eq_true rfl) ?_
                    refine J_gen (wD_s0_7 wD108b _) (((hs1.trans wS101).trans wS108).put (by omega) (by omega) _) (fun A149 w149 s149 o149 => ?_)
                    have w149R := wR108.o2 o149 (m := 6) rfl (by omega)
                    have w149T := wT108.o2 o149 (m := 5) rfl (by omega)
                    refine J_aload_n dX2_read_121 rfl rfl ?_
                    refine J_aload_n dX2_read_122 rfl rfl ?_
                    refine J_getf dX2_read_123 fl_X2_12 (w149.at 0 rfl) rfl ?_
                    refine J_aload_n dX2_read_126 rfl rfl ?_
                    refine J_getf dX2_read_127 fl_X2_39 (w149.at 0 rfl) rfl ?_
                    refine J_callVr (As := [_]) dX2_read_130 ml_X2_86 cal_X5_start im_X5_start se_X5_start (w149T.at 0 rfl) rfl rfl rfl (Nat.le_of_ble_eq_true rfl) ⟨by decide, by decide⟩ ⟨by decide, by decide⟩ (c_X5_start hst w149T hscn.1 ht1 (rfl : nI (wrsW (scG T0 len) (k1 + 1)).2.1 = nI (wrsW (scG T0 len) (k1 + 1)).2.1) hk108.2) ?_
                    refine J_putf dX2_read_133 fp_X2_45 (fun _ => ⟨rfl, rfl⟩) (w149.at 0 rfl) (Nat.le_of_ble_eq_true rfl) ?_
                    refine J_gen (wD_s0_8 w149 _) (s149.put (by omega) (by omega) _) (fun A150 w150 s150 o150 => ?_)
                    have w150R := w149R.o2 o150 (m := 6) rfl (by omega)
                    have w150T := w149T.o2 o150 (m := 5) rfl (by omega)
                    refine J_aload_n dX2_read_136 rfl rfl ?_
                    refine J_getf dX2_read_137 fl_X2_42 (w150.at 0 rfl) rfl ?_
                    refine J_ireturn dX2_read_140 rfl rfl (by decide) (by decide) ?_
                    have e9 : (bokW (scG T0 len) (tkN T0 len) 401 0 [] []) = (false, (wrsW (scG T0 len) (k1 + 1)).2.1, its, rs) := by rw [hv]; simp [bokW, linW, h26, th36, h87]
                    have e8 : rdV T0 len = (1, posT T0 len (wrsW (scG T0 len) (k1 + 1)).2.1) := by unfold rdV; rw [e9]; rfl
                    rw [e8]
                    exact ⟨rfl, rfl, tok, sg, X, _, _, hc, ⟨w150, w150T, w150R⟩, s150, rfl, pos_eq hscn hk108.2, fun z => by rw [e9] at z; exact absurd z Bool.false_ne_true⟩
                · first | exact absurd h9 (by decide) | exact absurd (by decide) h9
              · have hg87 : k1 + 1 ≤ (wrsW (scG T0 len) (k1 + 1)).2.1 := hk108.1
                refine J_aload_n dX2_read_90 rfl rfl ?_
                refine J_gets (v := .ref 24) dX2_read_91 (gs_mem 24 (by decide)) (show (24 : Nat) < 400 by decide) sl_X2_83 ?_
                refine J_callVw (As := [_]) dX2_read_94 ml_X2_64 cal_X2_takes im_X2_takes se_X2_takes (wD108b.at 0 rfl) rfl rfl rfl (Nat.le_of_ble_eq_true rfl) ⟨by decide, by decide⟩ ⟨by decide, by decide⟩ (c_X2_takes hst ⟨wD108b, wT108, wR108⟩ hc hk108.2 (v := 24) (by decide)) (fun A109 hQ109 => ?_)
                obtain ⟨⟨wD109, wT109, wR109⟩, wS109⟩ := hQ109
                refine J_ifb_eq (tgt := 104) dX2_read_97 rfl (fun h97 => ?_) (fun h97 => ?_)
                · have th97 : ¬ (scG T0 len (wrsW (scG T0 len) (k1 + 1)).2.1 = 24) := fun z => h97 (eat_t.mpr z)
                  rw [eat_f2 th97] at wD109
                  refine J_iconst (v := 0) dX2_read_104 (by decide) ?_
                  refine J_istore_n (L' := [(1, _), (2, _), (0, _)]) dX2_read_105 rfl (by decide) rfl ?_
                  refine J_iinc (v := _ + 1) (L' := [(2, _), (1, _), (0, _)]) dX2_read_106 rfl rfl (by decide) rfl ?_
                  refine J_goto (tgt := 8) dX2_read_109 rfl ?_
                  refine J_iload_n dX2_read_8 rfl rfl ?_
                  refine J_if_eq (tgt := 112) dX2_read_9 rfl (fun h9 => ?_) (fun h9 => ?_)
                  · refine J_iload_n dX2_read_112 rfl rfl ?_
                    refine J_if_ne (tgt := 136) dX2_read_113 rfl (fun h113 => ?_) (fun h113 => ?_)
                    · first | exact absurd h113 (by decide) | exact absurd (by decide) h113
                    · refine J_aload_n dX2_read_116 rfl rfl ?_
                      refine J_iconst (v := 1) dX2_read_117 (by decide) ?_
                      refine J_putf dX2_read_118 fp_X2_42 (fun _ => ⟨rfl, rfl⟩) (wD109.at 0 rfl) (Nat.le_of_ble_eq_true rfl) ?_
                      refine J_gen (wD_s0_7 wD109 _) ((((hs1.trans wS101).trans wS108).trans wS109).put (by omega) (by omega) _) (fun A150 w150 s150 o150 => ?_)
                      have w150R := wR109.o2 o150 (m := 6) rfl (by omega)
                      have w150T := wT109.o2 o150 (m := 5) rfl (by omega)
                      refine J_aload_n dX2_read_121 rfl rfl ?_
                      refine J_aload_n dX2_read_122 rfl rfl ?_
                      refine J_getf dX2_read_123 fl_X2_12 (w150.at 0 rfl) rfl ?_
                      refine J_aload_n dX2_read_126 rfl rfl ?_
                      refine J_getf dX2_read_127 fl_X2_39 (w150.at 0 rfl) rfl ?_
                      refine J_callVr (As := [_]) dX2_read_130 ml_X2_86 cal_X5_start im_X5_start se_X5_start (w150T.at 0 rfl) rfl rfl rfl (Nat.le_of_ble_eq_true rfl) ⟨by decide, by decide⟩ ⟨by decide, by decide⟩ (c_X5_start hst w150T hscn.1 ht1 (rfl : nI (wrsW (scG T0 len) (k1 + 1)).2.1 = nI (wrsW (scG T0 len) (k1 + 1)).2.1) hk108.2) ?_
                      refine J_putf dX2_read_133 fp_X2_45 (fun _ => ⟨rfl, rfl⟩) (w150.at 0 rfl) (Nat.le_of_ble_eq_true rfl) ?_
                      refine J_gen (wD_s0_8 w150 _) (s150.put (by omega) (by omega) _) (fun A151 w151 s151 o151 => ?_)
                      have w151R := w150R.o2 o151 (m := 6) rfl (by omega)
                      have w151T := w150T.o2 o151 (m := 5) rfl (by omega)
                      refine J_aload_n dX2_read_136 rfl rfl ?_
                      refine J_getf dX2_read_137 fl_X2_42 (w151.at 0 rfl) rfl ?_
                      refine J_ireturn dX2_read_140 rfl rfl (by decide) (by decide) ?_
                      have e9 : (bokW (scG T0 len) (tkN T0 len) 401 0 [] []) = (false, (wrsW (scG T0 len) (k1 + 1)).2.1, its, rs) := by rw [hv]; simp [bokW, linW, h26, th36, h87, th97]
                      have e8 : rdV T0 len = (1, posT T0 len (wrsW (scG T0 len) (k1 + 1)).2.1) := by unfold rdV; rw [e9]; rfl
                      rw [e8]
                      exact ⟨rfl, rfl, tok, sg, X, _, _, hc, ⟨w151, w151T, w151R⟩, s151, rfl, pos_eq hscn hk108.2, fun z => by rw [e9] at z; exact absurd z Bool.false_ne_true⟩
                  · first | exact absurd h9 (by decide) | exact absurd (by decide) h9
                · have th97 := (eat_t.mp h97)
                  rw [eat_t2 th97] at wD109
                  have kh97 : (wrsW (scG T0 len) (k1 + 1)).2.1 + 1 < tok := hnx _ hk108.2 (by rw [th97]; decide) (by rw [th97]; decide)
                  refine J_iconst (v := 1) dX2_read_100 (by decide) ?_
                  refine J_goto (tgt := 105) dX2_read_101 rfl ?_
                  refine J_istore_n (L' := [(1, _), (2, _), (0, _)]) dX2_read_105 rfl (by decide) rfl ?_
                  refine J_iinc (v := _ + 1) (L' := [(2, _), (1, _), (0, _)]) dX2_read_106 rfl rfl (by decide) rfl ?_
                  refine J_goto (tgt := 8) dX2_read_109 rfl ?_
                  have ek9 : (wrsW (scG T0 len) (k1 + 1)).2.1 = (k1 + 1) + 3 := by rw [wrs_true h87]
                  have hk2e : k1 + 1 + 2 < tok := by have := hk108.2; rw [ek9] at this; omega
                  have eL : (linW (scG T0 len) (tkN T0 len) k1) = wrsW (scG T0 len) (k1 + 1) := by unfold linW; simp [h26, th36, h87, th97]
                  obtain ⟨c1, c2⟩ := cl_w hcl hscn hk2e th36 h87 hfl (hP108 h87)
                  rw [eL] at c1 c2
                  refine xx_J.pick [1, 0, 2] rfl ?_
                  exact ih _ D108 R108 ((wrsW (scG T0 len) (k1 + 1)).2.1 + 1) (q + 1) _ _ _ (by rw [hx]; exact nI_1 q) (by omega) kh97 (by omega) ⟨wD109, wT109, wR109⟩ (((hs1.trans wS101).trans wS108).trans wS109) rfl c1 (by omega) (by rw [hv]; simp [bokW, h26, th36, h87, th97, eL])
  refine xx_J.pick [1, 0, 2] rfl ?_
  exact loop 401 _ DB RB 0 0 [] [] _ rfl (by omega) ht0 (by omega) (by
    obtain ⟨q1, q2, q3⟩ := wB
    exact ⟨wD_at q1 b6, q2, q3⟩) sB rfl (clI_0 b5 b7 b8 bw0 bw1 bw2 br0 br3) (by simp [flatR]) rfl
end XRE
