/-! Tree.text -/
section XTX
variable {G : xx_G} {l : Launch} {A A' : xx_H} {n : Nat} {k j i q s e t d : Nat}
abbrev tl (k : Nat) : List Int32 := txt (xx_ln k)
theorem strT {k : Nat} (hk : k < 43) : strV A (th (xx_ln k)) (tl k) := strV.lit hk
/-- a tree as a text -/
def txL : (f : Nat) → Tr f → List Int32
  | 0, _ => []
  | f + 1, tr => if tr.1.1 = 0 then [] ++ tl 11 ++ decB tr.1.2 else if tr.1.1 = 1 then tl 30 else if tr.1.1 < 8 then [] ++ tl (11 + tr.1.1) ++ (if tr.1.2 = 0 then tl 31 else tl 32) else if tr.1.1 = 8 then [] ++ tl 33 ++ txL f tr.2.1 ++ tl 34 else if tr.1.1 < 13 then [] ++ tl 35 ++ txL f tr.2.1 ++ tl 34 ++ tl (19 + (tr.1.1 - 9)) ++ tl 35 ++ txL f tr.2.2 ++ tl 34 else if tr.1.1 < 15 then [] ++ tl (19 + (tr.1.1 - 9)) ++ txL f tr.2.1 ++ tl 36 ++ txL f tr.2.2 ++ tl 34 else if tr.1.1 < 25 then [] ++ txL f tr.2.1 ++ tl (25 + (tr.1.1 - 20)) ++ txL f tr.2.2 else if tr.1.1 = 25 then tl 37 else if tr.1.1 = 26 then [] ++ tl 38 ++ txL f tr.2.1 ++ tl 39 else [] ++ tl 40 ++ txL f tr.2.1 ++ tl 39 ++ (if tr.1.1 = 27 then tl 41 else tl 42) ++ tl 40 ++ txL f tr.2.2 ++ tl 39
theorem txL_s {f kd nu : Nat} {ta tb : Tr f} : txL (f + 1) ((kd, nu), (ta, tb)) = if kd = 0 then [] ++ tl 11 ++ decB nu else if kd = 1 then tl 30 else if kd < 8 then [] ++ tl (11 + kd) ++ (if nu = 0 then tl 31 else tl 32) else if kd = 8 then [] ++ tl 33 ++ txL f ta ++ tl 34 else if kd < 13 then [] ++ tl 35 ++ txL f ta ++ tl 34 ++ tl (19 + (kd - 9)) ++ tl 35 ++ txL f tb ++ tl 34 else if kd < 15 then [] ++ tl (19 + (kd - 9)) ++ txL f ta ++ tl 36 ++ txL f tb ++ tl 34 else if kd < 25 then [] ++ txL f ta ++ tl (25 + (kd - 20)) ++ txL f tb else if kd = 25 then tl 37 else if kd = 26 then [] ++ tl 38 ++ txL f ta ++ tl 39 else [] ++ tl 40 ++ txL f ta ++ tl 39 ++ (if kd = 27 then tl 41 else tl 42) ++ tl 40 ++ txL f tb ++ tl 39 := rfl
abbrev txQ (n : Nat) (tx : List Int32) (A : xx_H) : xx_Q := fun r A' n' => ∃ w : Nat, r = .inl (some (.ref w)) ∧ strV A' w tx ∧ ∀ z, z < n → A' z = A z
def TxC (G : xx_G) (l : Launch) (f : Nat) : Prop := ∀ (A : xx_H) (n v : Nat) (tr : Tr f), trA A f v tr → trK f tr → (txL f tr).length ≤ 900 → xx_C G l yX8_text mX8_text (f + 6) (200 + 40 * f) (14 * (2 ^ f - 1)) (14500 * (2 ^ f - 1)) [.ref v] A n (txQ n (txL f tr) A)
theorem J_aastSQ {M : xx_M} {fr lo mc ms : Nat} {Post : xx_Q} {pc : Nat} {L : List (Nat × Value)} {S : List Value} {k j h len v : Nat} {f : Nat → Option Nat} {i : Int32} (p : Nat) (hd : decode M.2.2.1 pc = .ok (.aastore, 1)) (hA : A h = some (.inl (6, len, .inr (.inr (.inr (.inr f)))))) (hi : i = nI p) (hp : p < len) (hl : len < 2 ^ 31) (hv : v < 82) (kk : ∀ A1 : xx_H, A1 h = some (.inl (6, len, .inr (.inr (.inr (.inr (va_up f p (some (th v)))))))) → (∀ z, z ≠ h → A1 z = A z) → xx_J G l M fr lo mc ms Post (pc + 1) L S A1 n k j) : xx_J G l M fr lo mc ms Post pc L (.ref (th v) :: .int i :: .ref h :: S) A n k j := by
  subst hi
  refine J_aastS hd hA (vp_in_nI hp hl) hv ?_
  rw [nI_clamp (by omega)]
  exact J_up kk
set_option maxRecDepth 100000 in
set_option maxHeartbeats 8000000 in
theorem text_s (hst : l.stackTraces = false) {f : Nat} (IH : TxC G l f) : TxC G l (f + 1) := by
  intro A n v tr hT hK hl
  obtain ⟨⟨kd, nu⟩, ta, tb⟩ := tr
  obtain ⟨ra, rb, hA, hca, hcb⟩ := hT
  obtain ⟨hk1, hk2, hk3, hk4, hk5, hk6⟩ := hK
  have hA : A v = some (.inr (7, [.int (nI kd), .int (nI nu), ra, rb])) := hA
  have hk1 : kd < 29 := hk1
  have hk2 : nu < 1000000 := hk2
  have hk3 : ¬ kd = 0 → nu < 2 := hk3
  have hca : hasA kd → ∃ a, ra = .ref a ∧ trA A f a ta := hca
  have hcb : hasB kd → ∃ b, rb = .ref b ∧ trA A f b tb := hcb
  have hk4 : hasA kd → trK f ta := hk4
  have hk5 : hasB kd → trK f tb := hk5
  have hk6 : ¬ (14 < kd ∧ kd < 20) := hk6
  have ek : (nI kd).toInt = kd := i_n (by omega)
  have eu : (nI nu).toInt = nu := i_n (by omega)
  have hp : 1 ≤ 2 ^ f := Nat.pow_pos (by decide)
  have hps : 2 ^ (f + 1) = 2 ^ f + 2 ^ f := by rw [Nat.pow_succ]; omega
  refine J_C hst (by decide +kernel) rfl rfl rfl (Nat.le_of_ble_eq_true rfl) ?_
  show xx_J _ _ _ _ _ _ _ _ 0 [(0, _)] [] _ _ _ _
  refine J_ltA (fun lt0 => ?_)
  have hvn := lt0 _ _ hA
  have r114 : ∀ (A0 : xx_H) (f1 f2 f3 : Nat → Option Nat), A0 n = some (.inl (6, 8, .inr (.inr (.inr (.inr f1))))) → (∀ p, p < 8 → f1 p = some (th (xx_ln (11 + p)))) → A0 (n + 1) = some (.inl (6, 6, .inr (.inr (.inr (.inr f2))))) → (∀ p, p < 6 → f2 p = some (th (xx_ln (19 + p)))) → A0 (n + 1 + 1) = some (.inl (6, 5, .inr (.inr (.inr (.inr f3))))) → (∀ p, p < 5 → f3 p = some (th (xx_ln (25 + p)))) → (∀ z, z < n → A0 z = A z) → xx_J G l mX8_text (f + 1 + 6) (200 + 40 * (f + 1)) (14 * (2 ^ (f + 1) - 1)) (14500 * (2 ^ (f + 1) - 1)) (txQ n (txL (f + 1) ((kd, nu), (ta, tb))) A) 114 [(3, .ref (n + 1 + 1)), (2, .ref (n + 1)), (1, .ref n), (0, .ref v)] [] A0 (n + 1 + 1 + 1) (0 + 1 + 1 + 1) (0 + 8 + 6 + 5) := by
    intro A0 f1 f2 f3 b1 c1 b2 c2 b3 c3 hfr0
    have hfr20 : ∀ z, z < n + 1 + 1 + 1 → A0 z = A0 z := fun _ _ => rfl
    generalize hN0 : n + 1 + 1 + 1 = n0 at hfr20 ⊢
    have hcs : kd = 0 ∨ kd = 1 ∨ ((2 ≤ kd ∧ kd < 8) ∧ nu = 0) ∨ ((2 ≤ kd ∧ kd < 8) ∧ ¬ nu = 0) ∨ kd = 8 ∨ (9 ≤ kd ∧ kd < 13) ∨ (13 ≤ kd ∧ kd < 15) ∨ (20 ≤ kd ∧ kd < 25) ∨ kd = 25 ∨ kd = 26 ∨ kd = 27 ∨ kd = 28 := by omega
    rcases hcs with hc | hc | hc | hc | hc | hc | hc | hc | hc | hc | hc | hc
    · have etx : txL (f + 1) ((kd, nu), (ta, tb)) = [] ++ tl 11 ++ decB nu := by rw [txL_s, if_pos (by omega)]
      refine J_aload_n dX8_text_114 rfl rfl ?_
      refine J_getf dX8_text_115 fl_X8_7 ((hfr20 v (by omega)).trans ((hfr0 v hvn).trans hA)) rfl ?_
      refine J_if_ne (tgt := 144) dX8_text_118 rfl (fun h118 => ?_) (fun h118 => ?_)
      · exfalso; simp only [i_lt, i_le, i_eq, i_0, i_1, i_8, ek, eu, show (13 : Int32).toInt = 13 from rfl, show (15 : Int32).toInt = 15 from rfl, show (25 : Int32).toInt = 25 from rfl, show (26 : Int32).toInt = 26 from rfl, show (27 : Int32).toInt = 27 from rfl] at h118; omega
      · refine J_new (fs := [.null, .int 0, .int 0, .int 0]) dX8_text_121 k_9 cl_X8_79 ins_java_lang_StringBuilder in_java_lang_StringBuilder (fun q hq => by rcases (show q = 0 ∨ q = 1 ∨ q = 2 ∨ q = 3 by omega) with rfl | rfl | rfl | rfl <;> rfl) (fun v hv q h => by subst h; simp at hv) (by omega) (by omega) ?_
        refine J_up (fun A21 g21 o21 => ?_)
        refine J_dup dX8_text_124 rfl ?_
        refine J_callI (As := []) dX8_text_125 (Or.inl ml_X8_81) cal_J4_init_da8c8 rfl rfl rfl im_J4_init_da8c8 rfl (Nat.le_of_ble_eq_true rfl) ⟨by omega, by show 8 + (1 + 11) + _ ≤ _; omega⟩ ⟨by omega, by omega⟩ (c_J4_init_da8c8 hst g21) (fun v9 A22 n22 _ hQ => ?_)
        obtain ⟨e9, hn22, hW22, hg22⟩ := hQ
        cases e9
        have hv22 : n0 < n0 + 1 ∧ n0 + 1 < n22 := by omega
        have hfr22 : ∀ z, z < n0 → A22 z = A0 z := fun z hz => (hg22 z (by omega) (by omega)).trans (o21 z (by omega))
        refine J_ldcS 11 dX8_text_128 rfl ?_
        refine J_callV (As := [_]) dX8_text_130 ml_X8_82 cal_J4_append_15ec4 im_J4_append_15ec4 se_J4_append_15ec4 hW22.1 rfl rfl rfl (Nat.le_of_ble_eq_true rfl) ⟨by omega, by show 8 + (2 + 11) + _ ≤ _; omega⟩ ⟨by omega, by omega⟩ (c_J4_append_15ec4 hst hW22 (strT (k := 11) (by decide)) (by have h9 := hl; rw [etx] at h9; simp only [List.length_append, List.length_nil] at h9 ⊢; omega)) (fun _ _ _ _ hE => absurd hE.1 (fun z => nomatch z)) (fun v9 A23 n23 _ hQ => ?_)
        obtain ⟨e9, hn23, hN23, v23, m23, hW23, hu23, hg23⟩ := hQ
        cases e9
        have hv23 : n0 < v23 ∧ v23 < n23 := by omega
        have hfr23 : ∀ z, z < n0 → A23 z = A0 z := fun z hz => (hg23 z (by omega) (by omega) (by omega)).trans (hfr22 z hz)
        refine J_aload_n dX8_text_133 rfl rfl ?_
        refine J_getf dX8_text_134 fl_X8_13 ((hfr23 v (by omega)).trans ((hfr0 v hvn).trans hA)) rfl ?_
        refine J_callV (As := [_]) dX8_text_137 ml_X8_86 cal_J4_append_bf812 im_J4_append_bf812 se_J4_append_bf812 hW23.1 rfl rfl rfl (Nat.le_of_ble_eq_true rfl) ⟨by omega, by show 8 + (2 + 11) + _ ≤ _; omega⟩ ⟨by omega, by omega⟩ (c_J4_append_bf812 hst hW23 hk2 (by have h9 := hl; rw [etx] at h9; simp only [List.length_append, List.length_nil] at h9 ⊢; omega)) (fun _ _ _ _ hE => absurd hE.1 (fun z => nomatch z)) (fun v9 A24 n24 _ hQ => ?_)
        obtain ⟨e9, hn24, hN24, v24, m24, hW24, hu24, hg24⟩ := hQ
        cases e9
        have hv24 : n0 < v24 ∧ v24 < n24 := by omega
        have hfr24 : ∀ z, z < n0 → A24 z = A0 z := fun z hz => (hg24 z (by omega) (by omega) (by omega)).trans (hfr23 z hz)
        refine J_callV (As := []) dX8_text_140 ml_X8_89 cal_J4_toString_0e30d im_J4_toString_0e30d se_J4_toString_0e30d hW24.1 rfl rfl rfl (Nat.le_of_ble_eq_true rfl) ⟨by omega, by show 8 + (1 + 11) + _ ≤ _; omega⟩ ⟨by omega, by omega⟩ (c_J4_toString_0e30d hst hW24 (by have h9 := hl; rw [etx] at h9; simp only [List.length_append, List.length_nil] at h9 ⊢; omega)) (fun _ _ _ _ hE => absurd hE.1 (fun z => nomatch z)) (fun v9 A25 n25 _ hQ => ?_)
        obtain ⟨e9, hn25, hT25, ⟨g9, hB9, hh9, hf9⟩, hg25⟩ := hQ
        cases e9
        refine J_areturn (C := _) dX8_text_143 rfl (by omega) (by omega) ?_
        refine ⟨_, rfl, ?_, fun z hz => (hg25 z (by omega)).trans ((hfr24 z (by omega)).trans (hfr0 z hz))⟩
        rw [etx]
        exact Or.inr ⟨_, g9, hT25, hB9, hh9, hf9⟩
    · have etx : txL (f + 1) ((kd, nu), (ta, tb)) = tl 30 := by rw [txL_s, if_neg (by omega), if_pos (by omega)]
      refine J_aload_n dX8_text_114 rfl rfl ?_
      refine J_getf dX8_text_115 fl_X8_7 ((hfr20 v (by omega)).trans ((hfr0 v hvn).trans hA)) rfl ?_
      refine J_if_ne (tgt := 144) dX8_text_118 rfl (fun h118 => ?_) (fun h118 => ?_)
      · refine J_aload_n dX8_text_144 rfl rfl ?_
        refine J_getf dX8_text_145 fl_X8_7 ((hfr20 v (by omega)).trans ((hfr0 v hvn).trans hA)) rfl ?_
        refine J_iconst (v := 1) dX8_text_148 (by decide) ?_
        refine J_icmp_ne (tgt := 155) dX8_text_149 rfl (fun h149 => ?_) (fun h149 => ?_)
        · exfalso; simp only [i_lt, i_le, i_eq, i_0, i_1, i_8, ek, eu, show (13 : Int32).toInt = 13 from rfl, show (15 : Int32).toInt = 15 from rfl, show (25 : Int32).toInt = 25 from rfl, show (26 : Int32).toInt = 26 from rfl, show (27 : Int32).toInt = 27 from rfl] at h149; omega
        · refine J_ldcS 30 dX8_text_152 rfl ?_
          refine J_areturn (C := _) dX8_text_154 rfl (by omega) (by omega) ?_
          refine ⟨_, rfl, ?_, hfr0⟩
          rw [etx]
          exact strV.lit (k := 30) (by decide)
      · exfalso; simp only [i_lt, i_le, i_eq, i_0, i_1, i_8, ek, eu, show (13 : Int32).toInt = 13 from rfl, show (15 : Int32).toInt = 15 from rfl, show (25 : Int32).toInt = 25 from rfl, show (26 : Int32).toInt = 26 from rfl, show (27 : Int32).toInt = 27 from rfl] at h118; omega
    · have etx : txL (f + 1) ((kd, nu), (ta, tb)) = [] ++ tl (11 + kd) ++ tl 31 := by rw [txL_s, if_neg (by omega), if_neg (by omega), if_pos (by omega), if_pos hc.2]
      refine J_aload_n dX8_text_114 rfl rfl ?_
      refine J_getf dX8_text_115 fl_X8_7 ((hfr20 v (by omega)).trans ((hfr0 v hvn).trans hA)) rfl ?_
      refine J_if_ne (tgt := 144) dX8_text_118 rfl (fun h118 => ?_) (fun h118 => ?_)
      · refine J_aload_n dX8_text_144 rfl rfl ?_
        refine J_getf dX8_text_145 fl_X8_7 ((hfr20 v (by omega)).trans ((hfr0 v hvn).trans hA)) rfl ?_
        refine J_iconst (v := 1) dX8_text_148 (by decide) ?_
        refine J_icmp_ne (tgt := 155) dX8_text_149 rfl (fun h149 => ?_) (fun h149 => ?_)
        · refine J_aload_n dX8_text_155 rfl rfl ?_
          refine J_getf dX8_text_156 fl_X8_7 ((hfr20 v (by omega)).trans ((hfr0 v hvn).trans hA)) rfl ?_
          refine J_bipush (v := 8) dX8_text_159 (by decide) ?_
          refine J_icmp_ge (tgt := 201) dX8_text_161 rfl (fun h161 => ?_) (fun h161 => ?_)
          · exfalso; simp only [i_lt, i_le, i_eq, i_0, i_1, i_8, ek, eu, show (13 : Int32).toInt = 13 from rfl, show (15 : Int32).toInt = 15 from rfl, show (25 : Int32).toInt = 25 from rfl, show (26 : Int32).toInt = 26 from rfl, show (27 : Int32).toInt = 27 from rfl] at h161; omega
          · refine J_new (fs := [.null, .int 0, .int 0, .int 0]) dX8_text_164 k_9 cl_X8_79 ins_java_lang_StringBuilder in_java_lang_StringBuilder (fun q hq => by rcases (show q = 0 ∨ q = 1 ∨ q = 2 ∨ q = 3 by omega) with rfl | rfl | rfl | rfl <;> rfl) (fun v hv q h => by subst h; simp at hv) (by omega) (by omega) ?_
            refine J_up (fun A21 g21 o21 => ?_)
            refine J_dup dX8_text_167 rfl ?_
            refine J_callI (As := []) dX8_text_168 (Or.inl ml_X8_81) cal_J4_init_da8c8 rfl rfl rfl im_J4_init_da8c8 rfl (Nat.le_of_ble_eq_true rfl) ⟨by omega, by show 8 + (1 + 11) + _ ≤ _; omega⟩ ⟨by omega, by omega⟩ (c_J4_init_da8c8 hst g21) (fun v9 A22 n22 _ hQ => ?_)
            obtain ⟨e9, hn22, hW22, hg22⟩ := hQ
            cases e9
            have hv22 : n0 < n0 + 1 ∧ n0 + 1 < n22 := by omega
            have hfr22 : ∀ z, z < n0 → A22 z = A0 z := fun z hz => (hg22 z (by omega) (by omega)).trans (o21 z (by omega))
            refine J_aload_n dX8_text_171 rfl rfl ?_
            refine J_aload_n dX8_text_172 rfl rfl ?_
            refine J_getf dX8_text_173 fl_X8_7 ((hfr22 v (by omega)).trans ((hfr0 v hvn).trans hA)) rfl ?_
            refine J_aaldR (kd) dX8_text_176 (Or.inr (Or.inr (Or.inr rfl))) ((hfr22 (n) (by omega)).trans b1) rfl (by omega) (by decide) (c1 (kd) (by omega)) ?_
            refine J_callV (As := [_]) dX8_text_177 ml_X8_82 cal_J4_append_15ec4 im_J4_append_15ec4 se_J4_append_15ec4 hW22.1 rfl rfl rfl (Nat.le_of_ble_eq_true rfl) ⟨by omega, by show 8 + (2 + 11) + _ ≤ _; omega⟩ ⟨by omega, by omega⟩ (c_J4_append_15ec4 hst hW22 (strT (k := 11 + (kd)) (by omega)) (by have h9 := hl; rw [etx] at h9; simp only [List.length_append, List.length_nil] at h9 ⊢; omega)) (fun _ _ _ _ hE => absurd hE.1 (fun z => nomatch z)) (fun v9 A23 n23 _ hQ => ?_)
            obtain ⟨e9, hn23, hN23, v23, m23, hW23, hu23, hg23⟩ := hQ
            cases e9
            have hv23 : n0 < v23 ∧ v23 < n23 := by omega
            have hfr23 : ∀ z, z < n0 → A23 z = A0 z := fun z hz => (hg23 z (by omega) (by omega) (by omega)).trans (hfr22 z hz)
            refine J_aload_n dX8_text_180 rfl rfl ?_
            refine J_getf dX8_text_181 fl_X8_13 ((hfr23 v (by omega)).trans ((hfr0 v hvn).trans hA)) rfl ?_
            refine J_if_ne (tgt := 192) dX8_text_184 rfl (fun h184 => ?_) (fun h184 => ?_)
            · exfalso; simp only [i_lt, i_le, i_eq, i_0, i_1, i_8, ek, eu, show (13 : Int32).toInt = 13 from rfl, show (15 : Int32).toInt = 15 from rfl, show (25 : Int32).toInt = 25 from rfl, show (26 : Int32).toInt = 26 from rfl, show (27 : Int32).toInt = 27 from rfl] at h184; omega
            · refine J_ldcS 31 dX8_text_187 rfl ?_
              refine J_goto (tgt := 194) dX8_text_189 rfl ?_
              refine J_callV (As := [_]) dX8_text_194 ml_X8_82 cal_J4_append_15ec4 im_J4_append_15ec4 se_J4_append_15ec4 hW23.1 rfl rfl rfl (Nat.le_of_ble_eq_true rfl) ⟨by omega, by show 8 + (2 + 11) + _ ≤ _; omega⟩ ⟨by omega, by omega⟩ (c_J4_append_15ec4 hst hW23 (strT (k := 31) (by decide)) (by have h9 := hl; rw [etx] at h9; simp only [List.length_append, List.length_nil] at h9 ⊢; omega)) (fun _ _ _ _ hE => absurd hE.1 (fun z => nomatch z)) (fun v9 A24 n24 _ hQ => ?_)
              obtain ⟨e9, hn24, hN24, v24, m24, hW24, hu24, hg24⟩ := hQ
              cases e9
              have hv24 : n0 < v24 ∧ v24 < n24 := by omega
              have hfr24 : ∀ z, z < n0 → A24 z = A0 z := fun z hz => (hg24 z (by omega) (by omega) (by omega)).trans (hfr23 z hz)
              refine J_callV (As := []) dX8_text_197 ml_X8_89 cal_J4_toString_0e30d im_J4_toString_0e30d se_J4_toString_0e30d hW24.1 rfl rfl rfl (Nat.le_of_ble_eq_true rfl) ⟨by omega, by show 8 + (1 + 11) + _ ≤ _; omega⟩ ⟨by omega, by omega⟩ (c_J4_toString_0e30d hst hW24 (by have h9 := hl; rw [etx] at h9; simp only [List.length_append, List.length_nil] at h9 ⊢; omega)) (fun _ _ _ _ hE => absurd hE.1 (fun z => nomatch z)) (fun v9 A25 n25 _ hQ => ?_)
              obtain ⟨e9, hn25, hT25, ⟨g9, hB9, hh9, hf9⟩, hg25⟩ := hQ
              cases e9
              refine J_areturn (C := _) dX8_text_200 rfl (by omega) (by omega) ?_
              refine ⟨_, rfl, ?_, fun z hz => (hg25 z (by omega)).trans ((hfr24 z (by omega)).trans (hfr0 z hz))⟩
              rw [etx]
              exact Or.inr ⟨_, g9, hT25, hB9, hh9, hf9⟩
        · exfalso; simp only [i_lt, i_le, i_eq, i_0, i_1, i_8, ek, eu, show (13 : Int32).toInt = 13 from rfl, show (15 : Int32).toInt = 15 from rfl, show (25 : Int32).toInt = 25 from rfl, show (26 : Int32).toInt = 26 from rfl, show (27 : Int32).toInt = 27 from rfl] at h149; omega
      · exfalso; simp only [i_lt, i_le, i_eq, i_0, i_1, i_8, ek, eu, show (13 : Int32).toInt = 13 from rfl, show (15 : Int32).toInt = 15 from rfl, show (25 : Int32).toInt = 25 from rfl, show (26 : Int32).toInt = 26 from rfl, show (27 : Int32).toInt = 27 from rfl] at h118; omega
    · have etx : txL (f + 1) ((kd, nu), (ta, tb)) = [] ++ tl (11 + kd) ++ tl 32 := by rw [txL_s, if_neg (by omega), if_neg (by omega), if_pos (by omega), if_neg hc.2]
      refine J_aload_n dX8_text_114 rfl rfl ?_
      refine J_getf dX8_text_115 fl_X8_7 ((hfr20 v (by omega)).trans ((hfr0 v hvn).trans hA)) rfl ?_
      refine J_if_ne (tgt := 144) dX8_text_118 rfl (fun h118 => ?_) (fun h118 => ?_)
      · refine J_aload_n dX8_text_144 rfl rfl ?_
        refine J_getf dX8_text_145 fl_X8_7 ((hfr20 v (by omega)).trans ((hfr0 v hvn).trans hA)) rfl ?_
        refine J_iconst (v := 1) dX8_text_148 (by decide) ?_
        refine J_icmp_ne (tgt := 155) dX8_text_149 rfl (fun h149 => ?_) (fun h149 => ?_)
        · refine J_aload_n dX8_text_155 rfl rfl ?_
          refine J_getf dX8_text_156 fl_X8_7 ((hfr20 v (by omega)).trans ((hfr0 v hvn).trans hA)) rfl ?_
          refine J_bipush (v := 8) dX8_text_159 (by decide) ?_
          refine J_icmp_ge (tgt := 201) dX8_text_161 rfl (fun h161 => ?_) (fun h161 => ?_)
          · exfalso; simp only [i_lt, i_le, i_eq, i_0, i_1, i_8, ek, eu, show (13 : Int32).toInt = 13 from rfl, show (15 : Int32).toInt = 15 from rfl, show (25 : Int32).toInt = 25 from rfl, show (26 : Int32).toInt = 26 from rfl, show (27 : Int32).toInt = 27 from rfl] at h161; omega
          · refine J_new (fs := [.null, .int 0, .int 0, .int 0]) dX8_text_164 k_9 cl_X8_79 ins_java_lang_StringBuilder in_java_lang_StringBuilder (fun q hq => by rcases (show q = 0 ∨ q = 1 ∨ q = 2 ∨ q = 3 by omega) with rfl | rfl | rfl | rfl <;> rfl) (fun v hv q h => by subst h; simp at hv) (by omega) (by omega) ?_
            refine J_up (fun A21 g21 o21 => ?_)
            refine J_dup dX8_text_167 rfl ?_
            refine J_callI (As := []) dX8_text_168 (Or.inl ml_X8_81) cal_J4_init_da8c8 rfl rfl rfl im_J4_init_da8c8 rfl (Nat.le_of_ble_eq_true rfl) ⟨by omega, by show 8 + (1 + 11) + _ ≤ _; omega⟩ ⟨by omega, by omega⟩ (c_J4_init_da8c8 hst g21) (fun v9 A22 n22 _ hQ => ?_)
            obtain ⟨e9, hn22, hW22, hg22⟩ := hQ
            cases e9
            have hv22 : n0 < n0 + 1 ∧ n0 + 1 < n22 := by omega
            have hfr22 : ∀ z, z < n0 → A22 z = A0 z := fun z hz => (hg22 z (by omega) (by omega)).trans (o21 z (by omega))
            refine J_aload_n dX8_text_171 rfl rfl ?_
            refine J_aload_n dX8_text_172 rfl rfl ?_
            refine J_getf dX8_text_173 fl_X8_7 ((hfr22 v (by omega)).trans ((hfr0 v hvn).trans hA)) rfl ?_
            refine J_aaldR (kd) dX8_text_176 (Or.inr (Or.inr (Or.inr rfl))) ((hfr22 (n) (by omega)).trans b1) rfl (by omega) (by decide) (c1 (kd) (by omega)) ?_
            refine J_callV (As := [_]) dX8_text_177 ml_X8_82 cal_J4_append_15ec4 im_J4_append_15ec4 se_J4_append_15ec4 hW22.1 rfl rfl rfl (Nat.le_of_ble_eq_true rfl) ⟨by omega, by show 8 + (2 + 11) + _ ≤ _; omega⟩ ⟨by omega, by omega⟩ (c_J4_append_15ec4 hst hW22 (strT (k := 11 + (kd)) (by omega)) (by have h9 := hl; rw [etx] at h9; simp only [List.length_append, List.length_nil] at h9 ⊢; omega)) (fun _ _ _ _ hE => absurd hE.1 (fun z => nomatch z)) (fun v9 A23 n23 _ hQ => ?_)
            obtain ⟨e9, hn23, hN23, v23, m23, hW23, hu23, hg23⟩ := hQ
            cases e9
            have hv23 : n0 < v23 ∧ v23 < n23 := by omega
            have hfr23 : ∀ z, z < n0 → A23 z = A0 z := fun z hz => (hg23 z (by omega) (by omega) (by omega)).trans (hfr22 z hz)
            refine J_aload_n dX8_text_180 rfl rfl ?_
            refine J_getf dX8_text_181 fl_X8_13 ((hfr23 v (by omega)).trans ((hfr0 v hvn).trans hA)) rfl ?_
            refine J_if_ne (tgt := 192) dX8_text_184 rfl (fun h184 => ?_) (fun h184 => ?_)
            · refine J_ldcS 32 dX8_text_192 rfl ?_
              refine J_callV (As := [_]) dX8_text_194 ml_X8_82 cal_J4_append_15ec4 im_J4_append_15ec4 se_J4_append_15ec4 hW23.1 rfl rfl rfl (Nat.le_of_ble_eq_true rfl) ⟨by omega, by show 8 + (2 + 11) + _ ≤ _; omega⟩ ⟨by omega, by omega⟩ (c_J4_append_15ec4 hst hW23 (strT (k := 32) (by decide)) (by have h9 := hl; rw [etx] at h9; simp only [List.length_append, List.length_nil] at h9 ⊢; omega)) (fun _ _ _ _ hE => absurd hE.1 (fun z => nomatch z)) (fun v9 A24 n24 _ hQ => ?_)
              obtain ⟨e9, hn24, hN24, v24, m24, hW24, hu24, hg24⟩ := hQ
              cases e9
              have hv24 : n0 < v24 ∧ v24 < n24 := by omega
              have hfr24 : ∀ z, z < n0 → A24 z = A0 z := fun z hz => (hg24 z (by omega) (by omega) (by omega)).trans (hfr23 z hz)
              refine J_callV (As := []) dX8_text_197 ml_X8_89 cal_J4_toString_0e30d im_J4_toString_0e30d se_J4_toString_0e30d hW24.1 rfl rfl rfl (Nat.le_of_ble_eq_true rfl) ⟨by omega, by show 8 + (1 + 11) + _ ≤ _; omega⟩ ⟨by omega, by omega⟩ (c_J4_toString_0e30d hst hW24 (by have h9 := hl; rw [etx] at h9; simp only [List.length_append, List.length_nil] at h9 ⊢; omega)) (fun _ _ _ _ hE => absurd hE.1 (fun z => nomatch z)) (fun v9 A25 n25 _ hQ => ?_)
              obtain ⟨e9, hn25, hT25, ⟨g9, hB9, hh9, hf9⟩, hg25⟩ := hQ
              cases e9
              refine J_areturn (C := _) dX8_text_200 rfl (by omega) (by omega) ?_
              refine ⟨_, rfl, ?_, fun z hz => (hg25 z (by omega)).trans ((hfr24 z (by omega)).trans (hfr0 z hz))⟩
              rw [etx]
              exact Or.inr ⟨_, g9, hT25, hB9, hh9, hf9⟩
            · exfalso; simp only [i_lt, i_le, i_eq, i_0, i_1, i_8, ek, eu, show (13 : Int32).toInt = 13 from rfl, show (15 : Int32).toInt = 15 from rfl, show (25 : Int32).toInt = 25 from rfl, show (26 : Int32).toInt = 26 from rfl, show (27 : Int32).toInt = 27 from rfl] at h184; omega
        · exfalso; simp only [i_lt, i_le, i_eq, i_0, i_1, i_8, ek, eu, show (13 : Int32).toInt = 13 from rfl, show (15 : Int32).toInt = 15 from rfl, show (25 : Int32).toInt = 25 from rfl, show (26 : Int32).toInt = 26 from rfl, show (27 : Int32).toInt = 27 from rfl] at h149; omega
      · exfalso; simp only [i_lt, i_le, i_eq, i_0, i_1, i_8, ek, eu, show (13 : Int32).toInt = 13 from rfl, show (15 : Int32).toInt = 15 from rfl, show (25 : Int32).toInt = 25 from rfl, show (26 : Int32).toInt = 26 from rfl, show (27 : Int32).toInt = 27 from rfl] at h118; omega
    · have etx : txL (f + 1) ((kd, nu), (ta, tb)) = [] ++ tl 33 ++ txL f ta ++ tl 34 := by rw [txL_s, if_neg (by omega), if_neg (by omega), if_neg (by omega), if_pos (by omega)]
      have hha : hasA kd := ⟨by omega, by omega⟩
      obtain ⟨a9, ea, ta9⟩ := hca hha
      subst ea
      refine J_aload_n dX8_text_114 rfl rfl ?_
      refine J_getf dX8_text_115 fl_X8_7 ((hfr20 v (by omega)).trans ((hfr0 v hvn).trans hA)) rfl ?_
      refine J_if_ne (tgt := 144) dX8_text_118 rfl (fun h118 => ?_) (fun h118 => ?_)
      · refine J_aload_n dX8_text_144 rfl rfl ?_
        refine J_getf dX8_text_145 fl_X8_7 ((hfr20 v (by omega)).trans ((hfr0 v hvn).trans hA)) rfl ?_
        refine J_iconst (v := 1) dX8_text_148 (by decide) ?_
        refine J_icmp_ne (tgt := 155) dX8_text_149 rfl (fun h149 => ?_) (fun h149 => ?_)
        · refine J_aload_n dX8_text_155 rfl rfl ?_
          refine J_getf dX8_text_156 fl_X8_7 ((hfr20 v (by omega)).trans ((hfr0 v hvn).trans hA)) rfl ?_
          refine J_bipush (v := 8) dX8_text_159 (by decide) ?_
          refine J_icmp_ge (tgt := 201) dX8_text_161 rfl (fun h161 => ?_) (fun h161 => ?_)
          · refine J_aload_n dX8_text_201 rfl rfl ?_
            refine J_getf dX8_text_202 fl_X8_7 ((hfr20 v (by omega)).trans ((hfr0 v hvn).trans hA)) rfl ?_
            refine J_bipush (v := 8) dX8_text_205 (by decide) ?_
            refine J_icmp_ne (tgt := 241) dX8_text_207 rfl (fun h207 => ?_) (fun h207 => ?_)
            · exfalso; simp only [i_lt, i_le, i_eq, i_0, i_1, i_8, ek, eu, show (13 : Int32).toInt = 13 from rfl, show (15 : Int32).toInt = 15 from rfl, show (25 : Int32).toInt = 25 from rfl, show (26 : Int32).toInt = 26 from rfl, show (27 : Int32).toInt = 27 from rfl] at h207; omega
            · refine J_new (fs := [.null, .int 0, .int 0, .int 0]) dX8_text_210 k_9 cl_X8_79 ins_java_lang_StringBuilder in_java_lang_StringBuilder (fun q hq => by rcases (show q = 0 ∨ q = 1 ∨ q = 2 ∨ q = 3 by omega) with rfl | rfl | rfl | rfl <;> rfl) (fun v hv q h => by subst h; simp at hv) (by omega) (by omega) ?_
              refine J_up (fun A21 g21 o21 => ?_)
              refine J_dup dX8_text_213 rfl ?_
              refine J_callI (As := []) dX8_text_214 (Or.inl ml_X8_81) cal_J4_init_da8c8 rfl rfl rfl im_J4_init_da8c8 rfl (Nat.le_of_ble_eq_true rfl) ⟨by omega, by show 8 + (1 + 11) + _ ≤ _; omega⟩ ⟨by omega, by omega⟩ (c_J4_init_da8c8 hst g21) (fun v9 A22 n22 _ hQ => ?_)
              obtain ⟨e9, hn22, hW22, hg22⟩ := hQ
              cases e9
              have hv22 : n0 < n0 + 1 ∧ n0 + 1 < n22 := by omega
              have hfr22 : ∀ z, z < n0 → A22 z = A0 z := fun z hz => (hg22 z (by omega) (by omega)).trans (o21 z (by omega))
              refine J_ldcS 33 dX8_text_217 rfl ?_
              refine J_callV (As := [_]) dX8_text_219 ml_X8_82 cal_J4_append_15ec4 im_J4_append_15ec4 se_J4_append_15ec4 hW22.1 rfl rfl rfl (Nat.le_of_ble_eq_true rfl) ⟨by omega, by show 8 + (2 + 11) + _ ≤ _; omega⟩ ⟨by omega, by omega⟩ (c_J4_append_15ec4 hst hW22 (strT (k := 33) (by decide)) (by have h9 := hl; rw [etx] at h9; simp only [List.length_append, List.length_nil] at h9 ⊢; omega)) (fun _ _ _ _ hE => absurd hE.1 (fun z => nomatch z)) (fun v9 A23 n23 _ hQ => ?_)
              obtain ⟨e9, hn23, hN23, v23, m23, hW23, hu23, hg23⟩ := hQ
              cases e9
              have hv23 : n0 < v23 ∧ v23 < n23 := by omega
              have hfr23 : ∀ z, z < n0 → A23 z = A0 z := fun z hz => (hg23 z (by omega) (by omega) (by omega)).trans (hfr22 z hz)
              refine J_aload_n dX8_text_222 rfl rfl ?_
              refine J_getf dX8_text_223 fl_X8_26 ((hfr23 v (by omega)).trans ((hfr0 v hvn).trans hA)) rfl ?_
              have tr23 := ta9.up (A' := A23) _ _ _ (fun z c hz => (hfr23 z (by have := lt0 _ _ hz; omega)).trans (hfr0 z (lt0 _ _ hz)))
              obtain ⟨fa23, ca23⟩ := trA.cell _ _ _ tr23
              refine J_callV (As := []) dX8_text_226 ml_X8_101 cal_X8_text im_X8_text se_X8_text ca23 rfl rfl rfl (Nat.le_of_ble_eq_true rfl) ⟨by omega, by show 8 + (4 + 11) + _ ≤ _; omega⟩ ⟨by omega, by omega⟩ (IH A23 n23 a9 ta tr23 (hk4 hha) (by have h9 := hl; rw [etx] at h9; simp only [List.length_append, List.length_nil] at h9; omega)) (fun _ _ _ _ hE => by obtain ⟨_, z, _⟩ := hE; exact nomatch z) (fun v9 A24 n24 hn24 hQ => ?_)
              obtain ⟨w24, e9, hs24, hg24⟩ := hQ
              cases e9
              have hW24 := hW23.up (hg24 _ (by omega)) (hg24 _ hv23.2)
              have hv24 : n0 < _ ∧ _ < n24 := ⟨hv23.1, Nat.lt_of_lt_of_le hv23.2 hn24⟩
              have hfr24 : ∀ z, z < n0 → A24 z = A0 z := fun z hz => (hg24 z (by omega)).trans (hfr23 z hz)
              refine J_callV (As := [_]) dX8_text_229 ml_X8_82 cal_J4_append_15ec4 im_J4_append_15ec4 se_J4_append_15ec4 hW24.1 rfl rfl rfl (Nat.le_of_ble_eq_true rfl) ⟨by omega, by show 8 + (2 + 11) + _ ≤ _; omega⟩ ⟨by omega, by omega⟩ (c_J4_append_15ec4 hst hW24 hs24 (by have h9 := hl; rw [etx] at h9; simp only [List.length_append, List.length_nil] at h9 ⊢; omega)) (fun _ _ _ _ hE => absurd hE.1 (fun z => nomatch z)) (fun v9 A25 n25 _ hQ => ?_)
              obtain ⟨e9, hn25, hN25, v25, m25, hW25, hu25, hg25⟩ := hQ
              cases e9
              have hv25 : n0 < v25 ∧ v25 < n25 := by omega
              have hfr25 : ∀ z, z < n0 → A25 z = A0 z := fun z hz => (hg25 z (by omega) (by omega) (by omega)).trans (hfr24 z hz)
              refine J_ldcS 34 dX8_text_232 rfl ?_
              refine J_callV (As := [_]) dX8_text_234 ml_X8_82 cal_J4_append_15ec4 im_J4_append_15ec4 se_J4_append_15ec4 hW25.1 rfl rfl rfl (Nat.le_of_ble_eq_true rfl) ⟨by omega, by show 8 + (2 + 11) + _ ≤ _; omega⟩ ⟨by omega, by omega⟩ (c_J4_append_15ec4 hst hW25 (strT (k := 34) (by decide)) (by have h9 := hl; rw [etx] at h9; simp only [List.length_append, List.length_nil] at h9 ⊢; omega)) (fun _ _ _ _ hE => absurd hE.1 (fun z => nomatch z)) (fun v9 A26 n26 _ hQ => ?_)
              obtain ⟨e9, hn26, hN26, v26, m26, hW26, hu26, hg26⟩ := hQ
              cases e9
              have hv26 : n0 < v26 ∧ v26 < n26 := by omega
              have hfr26 : ∀ z, z < n0 → A26 z = A0 z := fun z hz => (hg26 z (by omega) (by omega) (by omega)).trans (hfr25 z hz)
              refine J_callV (As := []) dX8_text_237 ml_X8_89 cal_J4_toString_0e30d im_J4_toString_0e30d se_J4_toString_0e30d hW26.1 rfl rfl rfl (Nat.le_of_ble_eq_true rfl) ⟨by omega, by show 8 + (1 + 11) + _ ≤ _; omega⟩ ⟨by omega, by omega⟩ (c_J4_toString_0e30d hst hW26 (by have h9 := hl; rw [etx] at h9; simp only [List.length_append, List.length_nil] at h9 ⊢; omega)) (fun _ _ _ _ hE => absurd hE.1 (fun z => nomatch z)) (fun v9 A27 n27 _ hQ => ?_)
              obtain ⟨e9, hn27, hT27, ⟨g9, hB9, hh9, hf9⟩, hg27⟩ := hQ
              cases e9
              refine J_areturn (C := _) dX8_text_240 rfl (by omega) (by omega) ?_
              refine ⟨_, rfl, ?_, fun z hz => (hg27 z (by omega)).trans ((hfr26 z (by omega)).trans (hfr0 z hz))⟩
              rw [etx]
              exact Or.inr ⟨_, g9, hT27, hB9, hh9, hf9⟩
          · exfalso; simp only [i_lt, i_le, i_eq, i_0, i_1, i_8, ek, eu, show (13 : Int32).toInt = 13 from rfl, show (15 : Int32).toInt = 15 from rfl, show (25 : Int32).toInt = 25 from rfl, show (26 : Int32).toInt = 26 from rfl, show (27 : Int32).toInt = 27 from rfl] at h161; omega
        · exfalso; simp only [i_lt, i_le, i_eq, i_0, i_1, i_8, ek, eu, show (13 : Int32).toInt = 13 from rfl, show (15 : Int32).toInt = 15 from rfl, show (25 : Int32).toInt = 25 from rfl, show (26 : Int32).toInt = 26 from rfl, show (27 : Int32).toInt = 27 from rfl] at h149; omega
      · exfalso; simp only [i_lt, i_le, i_eq, i_0, i_1, i_8, ek, eu, show (13 : Int32).toInt = 13 from rfl, show (15 : Int32).toInt = 15 from rfl, show (25 : Int32).toInt = 25 from rfl, show (26 : Int32).toInt = 26 from rfl, show (27 : Int32).toInt = 27 from rfl] at h118; omega
    · have etx : txL (f + 1) ((kd, nu), (ta, tb)) = [] ++ tl 35 ++ txL f ta ++ tl 34 ++ tl (19 + (kd - 9)) ++ tl 35 ++ txL f tb ++ tl 34 := by rw [txL_s, if_neg (by omega), if_neg (by omega), if_neg (by omega), if_neg (by omega), if_pos (by omega)]
      have hha : hasA kd := ⟨by omega, by omega⟩
      obtain ⟨a9, ea, ta9⟩ := hca hha
      subst ea
      have hhb : hasB kd := ⟨by omega, by omega, by omega⟩
      obtain ⟨b9, eb, tb9⟩ := hcb hhb
      subst eb
      refine J_aload_n dX8_text_114 rfl rfl ?_
      refine J_getf dX8_text_115 fl_X8_7 ((hfr20 v (by omega)).trans ((hfr0 v hvn).trans hA)) rfl ?_
      refine J_if_ne (tgt := 144) dX8_text_118 rfl (fun h118 => ?_) (fun h118 => ?_)
      · refine J_aload_n dX8_text_144 rfl rfl ?_
        refine J_getf dX8_text_145 fl_X8_7 ((hfr20 v (by omega)).trans ((hfr0 v hvn).trans hA)) rfl ?_
        refine J_iconst (v := 1) dX8_text_148 (by decide) ?_
        refine J_icmp_ne (tgt := 155) dX8_text_149 rfl (fun h149 => ?_) (fun h149 => ?_)
        · refine J_aload_n dX8_text_155 rfl rfl ?_
          refine J_getf dX8_text_156 fl_X8_7 ((hfr20 v (by omega)).trans ((hfr0 v hvn).trans hA)) rfl ?_
          refine J_bipush (v := 8) dX8_text_159 (by decide) ?_
          refine J_icmp_ge (tgt := 201) dX8_text_161 rfl (fun h161 => ?_) (fun h161 => ?_)
          · refine J_aload_n dX8_text_201 rfl rfl ?_
            refine J_getf dX8_text_202 fl_X8_7 ((hfr20 v (by omega)).trans ((hfr0 v hvn).trans hA)) rfl ?_
            refine J_bipush (v := 8) dX8_text_205 (by decide) ?_
            refine J_icmp_ne (tgt := 241) dX8_text_207 rfl (fun h207 => ?_) (fun h207 => ?_)
            · refine J_aload_n dX8_text_241 rfl rfl ?_
              refine J_getf dX8_text_242 fl_X8_7 ((hfr20 v (by omega)).trans ((hfr0 v hvn).trans hA)) rfl ?_
              refine J_bipush (v := 13) dX8_text_245 (by decide) ?_
              refine J_icmp_ge (tgt := 313) dX8_text_247 rfl (fun h247 => ?_) (fun h247 => ?_)
              · exfalso; simp only [i_lt, i_le, i_eq, i_0, i_1, i_8, ek, eu, show (13 : Int32).toInt = 13 from rfl, show (15 : Int32).toInt = 15 from rfl, show (25 : Int32).toInt = 25 from rfl, show (26 : Int32).toInt = 26 from rfl, show (27 : Int32).toInt = 27 from rfl] at h247; omega
              · refine J_new (fs := [.null, .int 0, .int 0, .int 0]) dX8_text_250 k_9 cl_X8_79 ins_java_lang_StringBuilder in_java_lang_StringBuilder (fun q hq => by rcases (show q = 0 ∨ q = 1 ∨ q = 2 ∨ q = 3 by omega) with rfl | rfl | rfl | rfl <;> rfl) (fun v hv q h => by subst h; simp at hv) (by omega) (by omega) ?_
                refine J_up (fun A21 g21 o21 => ?_)
                refine J_dup dX8_text_253 rfl ?_
                refine J_callI (As := []) dX8_text_254 (Or.inl ml_X8_81) cal_J4_init_da8c8 rfl rfl rfl im_J4_init_da8c8 rfl (Nat.le_of_ble_eq_true rfl) ⟨by omega, by show 8 + (1 + 11) + _ ≤ _; omega⟩ ⟨by omega, by omega⟩ (c_J4_init_da8c8 hst g21) (fun v9 A22 n22 _ hQ => ?_)
                obtain ⟨e9, hn22, hW22, hg22⟩ := hQ
                cases e9
                have hv22 : n0 < n0 + 1 ∧ n0 + 1 < n22 := by omega
                have hfr22 : ∀ z, z < n0 → A22 z = A0 z := fun z hz => (hg22 z (by omega) (by omega)).trans (o21 z (by omega))
                refine J_ldcS 35 dX8_text_257 rfl ?_
                refine J_callV (As := [_]) dX8_text_259 ml_X8_82 cal_J4_append_15ec4 im_J4_append_15ec4 se_J4_append_15ec4 hW22.1 rfl rfl rfl (Nat.le_of_ble_eq_true rfl) ⟨by omega, by show 8 + (2 + 11) + _ ≤ _; omega⟩ ⟨by omega, by omega⟩ (c_J4_append_15ec4 hst hW22 (strT (k := 35) (by decide)) (by have h9 := hl; rw [etx] at h9; simp only [List.length_append, List.length_nil] at h9 ⊢; omega)) (fun _ _ _ _ hE => absurd hE.1 (fun z => nomatch z)) (fun v9 A23 n23 _ hQ => ?_)
                obtain ⟨e9, hn23, hN23, v23, m23, hW23, hu23, hg23⟩ := hQ
                cases e9
                have hv23 : n0 < v23 ∧ v23 < n23 := by omega
                have hfr23 : ∀ z, z < n0 → A23 z = A0 z := fun z hz => (hg23 z (by omega) (by omega) (by omega)).trans (hfr22 z hz)
                refine J_aload_n dX8_text_262 rfl rfl ?_
                refine J_getf dX8_text_263 fl_X8_26 ((hfr23 v (by omega)).trans ((hfr0 v hvn).trans hA)) rfl ?_
                have tr23 := ta9.up (A' := A23) _ _ _ (fun z c hz => (hfr23 z (by have := lt0 _ _ hz; omega)).trans (hfr0 z (lt0 _ _ hz)))
                obtain ⟨fa23, ca23⟩ := trA.cell _ _ _ tr23
                refine J_callV (As := []) dX8_text_266 ml_X8_101 cal_X8_text im_X8_text se_X8_text ca23 rfl rfl rfl (Nat.le_of_ble_eq_true rfl) ⟨by omega, by show 8 + (4 + 11) + _ ≤ _; omega⟩ ⟨by omega, by omega⟩ (IH A23 n23 a9 ta tr23 (hk4 hha) (by have h9 := hl; rw [etx] at h9; simp only [List.length_append, List.length_nil] at h9; omega)) (fun _ _ _ _ hE => by obtain ⟨_, z, _⟩ := hE; exact nomatch z) (fun v9 A24 n24 hn24 hQ => ?_)
                obtain ⟨w24, e9, hs24, hg24⟩ := hQ
                cases e9
                have hW24 := hW23.up (hg24 _ (by omega)) (hg24 _ hv23.2)
                have hv24 : n0 < _ ∧ _ < n24 := ⟨hv23.1, Nat.lt_of_lt_of_le hv23.2 hn24⟩
                have hfr24 : ∀ z, z < n0 → A24 z = A0 z := fun z hz => (hg24 z (by omega)).trans (hfr23 z hz)
                refine J_callV (As := [_]) dX8_text_269 ml_X8_82 cal_J4_append_15ec4 im_J4_append_15ec4 se_J4_append_15ec4 hW24.1 rfl rfl rfl (Nat.le_of_ble_eq_true rfl) ⟨by omega, by show 8 + (2 + 11) + _ ≤ _; omega⟩ ⟨by omega, by omega⟩ (c_J4_append_15ec4 hst hW24 hs24 (by have h9 := hl; rw [etx] at h9; simp only [List.length_append, List.length_nil] at h9 ⊢; omega)) (fun _ _ _ _ hE => absurd hE.1 (fun z => nomatch z)) (fun v9 A25 n25 _ hQ => ?_)
                obtain ⟨e9, hn25, hN25, v25, m25, hW25, hu25, hg25⟩ := hQ
                cases e9
                have hv25 : n0 < v25 ∧ v25 < n25 := by omega
                have hfr25 : ∀ z, z < n0 → A25 z = A0 z := fun z hz => (hg25 z (by omega) (by omega) (by omega)).trans (hfr24 z hz)
                refine J_ldcS 34 dX8_text_272 rfl ?_
                refine J_callV (As := [_]) dX8_text_274 ml_X8_82 cal_J4_append_15ec4 im_J4_append_15ec4 se_J4_append_15ec4 hW25.1 rfl rfl rfl (Nat.le_of_ble_eq_true rfl) ⟨by omega, by show 8 + (2 + 11) + _ ≤ _; omega⟩ ⟨by omega, by omega⟩ (c_J4_append_15ec4 hst hW25 (strT (k := 34) (by decide)) (by have h9 := hl; rw [etx] at h9; simp only [List.length_append, List.length_nil] at h9 ⊢; omega)) (fun _ _ _ _ hE => absurd hE.1 (fun z => nomatch z)) (fun v9 A26 n26 _ hQ => ?_)
                obtain ⟨e9, hn26, hN26, v26, m26, hW26, hu26, hg26⟩ := hQ
                cases e9
                have hv26 : n0 < v26 ∧ v26 < n26 := by omega
                have hfr26 : ∀ z, z < n0 → A26 z = A0 z := fun z hz => (hg26 z (by omega) (by omega) (by omega)).trans (hfr25 z hz)
                refine J_aload_n dX8_text_277 rfl rfl ?_
                refine J_aload_n dX8_text_278 rfl rfl ?_
                refine J_getf dX8_text_279 fl_X8_7 ((hfr26 v (by omega)).trans ((hfr0 v hvn).trans hA)) rfl ?_
                refine J_bipush (v := 9) dX8_text_282 (by decide) ?_
                refine J_isub dX8_text_284 ?_
                rw [show nI kd - 9 = nI (kd - 9) from by rw [show (9 : Int32) = nI 9 from rfl, pk_sub (by omega)]]
                refine J_aaldR (kd - 9) dX8_text_285 (Or.inr (Or.inr (Or.inr rfl))) ((hfr26 (n + 1) (by omega)).trans b2) rfl (by omega) (by decide) (c2 (kd - 9) (by omega)) ?_
                refine J_callV (As := [_]) dX8_text_286 ml_X8_82 cal_J4_append_15ec4 im_J4_append_15ec4 se_J4_append_15ec4 hW26.1 rfl rfl rfl (Nat.le_of_ble_eq_true rfl) ⟨by omega, by show 8 + (2 + 11) + _ ≤ _; omega⟩ ⟨by omega, by omega⟩ (c_J4_append_15ec4 hst hW26 (strT (k := 19 + (kd - 9)) (by omega)) (by have h9 := hl; rw [etx] at h9; simp only [List.length_append, List.length_nil] at h9 ⊢; omega)) (fun _ _ _ _ hE => absurd hE.1 (fun z => nomatch z)) (fun v9 A27 n27 _ hQ => ?_)
                obtain ⟨e9, hn27, hN27, v27, m27, hW27, hu27, hg27⟩ := hQ
                cases e9
                have hv27 : n0 < v27 ∧ v27 < n27 := by omega
                have hfr27 : ∀ z, z < n0 → A27 z = A0 z := fun z hz => (hg27 z (by omega) (by omega) (by omega)).trans (hfr26 z hz)
                refine J_ldcS 35 dX8_text_289 rfl ?_
                refine J_callV (As := [_]) dX8_text_291 ml_X8_82 cal_J4_append_15ec4 im_J4_append_15ec4 se_J4_append_15ec4 hW27.1 rfl rfl rfl (Nat.le_of_ble_eq_true rfl) ⟨by omega, by show 8 + (2 + 11) + _ ≤ _; omega⟩ ⟨by omega, by omega⟩ (c_J4_append_15ec4 hst hW27 (strT (k := 35) (by decide)) (by have h9 := hl; rw [etx] at h9; simp only [List.length_append, List.length_nil] at h9 ⊢; omega)) (fun _ _ _ _ hE => absurd hE.1 (fun z => nomatch z)) (fun v9 A28 n28 _ hQ => ?_)
                obtain ⟨e9, hn28, hN28, v28, m28, hW28, hu28, hg28⟩ := hQ
                cases e9
                have hv28 : n0 < v28 ∧ v28 < n28 := by omega
                have hfr28 : ∀ z, z < n0 → A28 z = A0 z := fun z hz => (hg28 z (by omega) (by omega) (by omega)).trans (hfr27 z hz)
                refine J_aload_n dX8_text_294 rfl rfl ?_
                refine J_getf dX8_text_295 fl_X8_33 ((hfr28 v (by omega)).trans ((hfr0 v hvn).trans hA)) rfl ?_
                have tr28 := tb9.up (A' := A28) _ _ _ (fun z c hz => (hfr28 z (by have := lt0 _ _ hz; omega)).trans (hfr0 z (lt0 _ _ hz)))
                obtain ⟨fa28, ca28⟩ := trA.cell _ _ _ tr28
                refine J_callV (As := []) dX8_text_298 ml_X8_101 cal_X8_text im_X8_text se_X8_text ca28 rfl rfl rfl (Nat.le_of_ble_eq_true rfl) ⟨by omega, by show 8 + (4 + 11) + _ ≤ _; omega⟩ ⟨by omega, by omega⟩ (IH A28 n28 b9 tb tr28 (hk5 hhb) (by have h9 := hl; rw [etx] at h9; simp only [List.length_append, List.length_nil] at h9; omega)) (fun _ _ _ _ hE => by obtain ⟨_, z, _⟩ := hE; exact nomatch z) (fun v9 A29 n29 hn29 hQ => ?_)
                obtain ⟨w29, e9, hs29, hg29⟩ := hQ
                cases e9
                have hW29 := hW28.up (hg29 _ (by omega)) (hg29 _ hv28.2)
                have hv29 : n0 < _ ∧ _ < n29 := ⟨hv28.1, Nat.lt_of_lt_of_le hv28.2 hn29⟩
                have hfr29 : ∀ z, z < n0 → A29 z = A0 z := fun z hz => (hg29 z (by omega)).trans (hfr28 z hz)
                refine J_callV (As := [_]) dX8_text_301 ml_X8_82 cal_J4_append_15ec4 im_J4_append_15ec4 se_J4_append_15ec4 hW29.1 rfl rfl rfl (Nat.le_of_ble_eq_true rfl) ⟨by omega, by show 8 + (2 + 11) + _ ≤ _; omega⟩ ⟨by omega, by omega⟩ (c_J4_append_15ec4 hst hW29 hs29 (by have h9 := hl; rw [etx] at h9; simp only [List.length_append, List.length_nil] at h9 ⊢; omega)) (fun _ _ _ _ hE => absurd hE.1 (fun z => nomatch z)) (fun v9 A30 n30 _ hQ => ?_)
                obtain ⟨e9, hn30, hN30, v30, m30, hW30, hu30, hg30⟩ := hQ
                cases e9
                have hv30 : n0 < v30 ∧ v30 < n30 := by omega
                have hfr30 : ∀ z, z < n0 → A30 z = A0 z := fun z hz => (hg30 z (by omega) (by omega) (by omega)).trans (hfr29 z hz)
                refine J_ldcS 34 dX8_text_304 rfl ?_
                refine J_callV (As := [_]) dX8_text_306 ml_X8_82 cal_J4_append_15ec4 im_J4_append_15ec4 se_J4_append_15ec4 hW30.1 rfl rfl rfl (Nat.le_of_ble_eq_true rfl) ⟨by omega, by show 8 + (2 + 11) + _ ≤ _; omega⟩ ⟨by omega, by omega⟩ (c_J4_append_15ec4 hst hW30 (strT (k := 34) (by decide)) (by have h9 := hl; rw [etx] at h9; simp only [List.length_append, List.length_nil] at h9 ⊢; omega)) (fun _ _ _ _ hE => absurd hE.1 (fun z => nomatch z)) (fun v9 A31 n31 _ hQ => ?_)
                obtain ⟨e9, hn31, hN31, v31, m31, hW31, hu31, hg31⟩ := hQ
                cases e9
                have hv31 : n0 < v31 ∧ v31 < n31 := by omega
                have hfr31 : ∀ z, z < n0 → A31 z = A0 z := fun z hz => (hg31 z (by omega) (by omega) (by omega)).trans (hfr30 z hz)
                refine J_callV (As := []) dX8_text_309 ml_X8_89 cal_J4_toString_0e30d im_J4_toString_0e30d se_J4_toString_0e30d hW31.1 rfl rfl rfl (Nat.le_of_ble_eq_true rfl) ⟨by omega, by show 8 + (1 + 11) + _ ≤ _; omega⟩ ⟨by omega, by omega⟩ (c_J4_toString_0e30d hst hW31 (by have h9 := hl; rw [etx] at h9; simp only [List.length_append, List.length_nil] at h9 ⊢; omega)) (fun _ _ _ _ hE => absurd hE.1 (fun z => nomatch z)) (fun v9 A32 n32 _ hQ => ?_)
                obtain ⟨e9, hn32, hT32, ⟨g9, hB9, hh9, hf9⟩, hg32⟩ := hQ
                cases e9
                refine J_areturn (C := _) dX8_text_312 rfl (by omega) (by omega) ?_
                refine ⟨_, rfl, ?_, fun z hz => (hg32 z (by omega)).trans ((hfr31 z (by omega)).trans (hfr0 z hz))⟩
                rw [etx]
                exact Or.inr ⟨_, g9, hT32, hB9, hh9, hf9⟩
            · exfalso; simp only [i_lt, i_le, i_eq, i_0, i_1, i_8, ek, eu, show (13 : Int32).toInt = 13 from rfl, show (15 : Int32).toInt = 15 from rfl, show (25 : Int32).toInt = 25 from rfl, show (26 : Int32).toInt = 26 from rfl, show (27 : Int32).toInt = 27 from rfl] at h207; omega
          · exfalso; simp only [i_lt, i_le, i_eq, i_0, i_1, i_8, ek, eu, show (13 : Int32).toInt = 13 from rfl, show (15 : Int32).toInt = 15 from rfl, show (25 : Int32).toInt = 25 from rfl, show (26 : Int32).toInt = 26 from rfl, show (27 : Int32).toInt = 27 from rfl] at h161; omega
        · exfalso; simp only [i_lt, i_le, i_eq, i_0, i_1, i_8, ek, eu, show (13 : Int32).toInt = 13 from rfl, show (15 : Int32).toInt = 15 from rfl, show (25 : Int32).toInt = 25 from rfl, show (26 : Int32).toInt = 26 from rfl, show (27 : Int32).toInt = 27 from rfl] at h149; omega
      · exfalso; simp only [i_lt, i_le, i_eq, i_0, i_1, i_8, ek, eu, show (13 : Int32).toInt = 13 from rfl, show (15 : Int32).toInt = 15 from rfl, show (25 : Int32).toInt = 25 from rfl, show (26 : Int32).toInt = 26 from rfl, show (27 : Int32).toInt = 27 from rfl] at h118; omega
    · have etx : txL (f + 1) ((kd, nu), (ta, tb)) = [] ++ tl (19 + (kd - 9)) ++ txL f ta ++ tl 36 ++ txL f tb ++ tl 34 := by rw [txL_s, if_neg (by omega), if_neg (by omega), if_neg (by omega), if_neg (by omega), if_neg (by omega), if_pos (by omega)]
      have hha : hasA kd := ⟨by omega, by omega⟩
      obtain ⟨a9, ea, ta9⟩ := hca hha
      subst ea
      have hhb : hasB kd := ⟨by omega, by omega, by omega⟩
      obtain ⟨b9, eb, tb9⟩ := hcb hhb
      subst eb
      refine J_aload_n dX8_text_114 rfl rfl ?_
      refine J_getf dX8_text_115 fl_X8_7 ((hfr20 v (by omega)).trans ((hfr0 v hvn).trans hA)) rfl ?_
      refine J_if_ne (tgt := 144) dX8_text_118 rfl (fun h118 => ?_) (fun h118 => ?_)
      · refine J_aload_n dX8_text_144 rfl rfl ?_
        refine J_getf dX8_text_145 fl_X8_7 ((hfr20 v (by omega)).trans ((hfr0 v hvn).trans hA)) rfl ?_
        refine J_iconst (v := 1) dX8_text_148 (by decide) ?_
        refine J_icmp_ne (tgt := 155) dX8_text_149 rfl (fun h149 => ?_) (fun h149 => ?_)
        · refine J_aload_n dX8_text_155 rfl rfl ?_
          refine J_getf dX8_text_156 fl_X8_7 ((hfr20 v (by omega)).trans ((hfr0 v hvn).trans hA)) rfl ?_
          refine J_bipush (v := 8) dX8_text_159 (by decide) ?_
          refine J_icmp_ge (tgt := 201) dX8_text_161 rfl (fun h161 => ?_) (fun h161 => ?_)
          · refine J_aload_n dX8_text_201 rfl rfl ?_
            refine J_getf dX8_text_202 fl_X8_7 ((hfr20 v (by omega)).trans ((hfr0 v hvn).trans hA)) rfl ?_
            refine J_bipush (v := 8) dX8_text_205 (by decide) ?_
            refine J_icmp_ne (tgt := 241) dX8_text_207 rfl (fun h207 => ?_) (fun h207 => ?_)
            · refine J_aload_n dX8_text_241 rfl rfl ?_
              refine J_getf dX8_text_242 fl_X8_7 ((hfr20 v (by omega)).trans ((hfr0 v hvn).trans hA)) rfl ?_
              refine J_bipush (v := 13) dX8_text_245 (by decide) ?_
              refine J_icmp_ge (tgt := 313) dX8_text_247 rfl (fun h247 => ?_) (fun h247 => ?_)
              · refine J_aload_n dX8_text_313 rfl rfl ?_
                refine J_getf dX8_text_314 fl_X8_7 ((hfr20 v (by omega)).trans ((hfr0 v hvn).trans hA)) rfl ?_
                refine J_bipush (v := 15) dX8_text_317 (by decide) ?_
                refine J_icmp_ge (tgt := 375) dX8_text_319 rfl (fun h319 => ?_) (fun h319 => ?_)
                · exfalso; simp only [i_lt, i_le, i_eq, i_0, i_1, i_8, ek, eu, show (13 : Int32).toInt = 13 from rfl, show (15 : Int32).toInt = 15 from rfl, show (25 : Int32).toInt = 25 from rfl, show (26 : Int32).toInt = 26 from rfl, show (27 : Int32).toInt = 27 from rfl] at h319; omega
                · refine J_new (fs := [.null, .int 0, .int 0, .int 0]) dX8_text_322 k_9 cl_X8_79 ins_java_lang_StringBuilder in_java_lang_StringBuilder (fun q hq => by rcases (show q = 0 ∨ q = 1 ∨ q = 2 ∨ q = 3 by omega) with rfl | rfl | rfl | rfl <;> rfl) (fun v hv q h => by subst h; simp at hv) (by omega) (by omega) ?_
                  refine J_up (fun A21 g21 o21 => ?_)
                  refine J_dup dX8_text_325 rfl ?_
                  refine J_callI (As := []) dX8_text_326 (Or.inl ml_X8_81) cal_J4_init_da8c8 rfl rfl rfl im_J4_init_da8c8 rfl (Nat.le_of_ble_eq_true rfl) ⟨by omega, by show 8 + (1 + 11) + _ ≤ _; omega⟩ ⟨by omega, by omega⟩ (c_J4_init_da8c8 hst g21) (fun v9 A22 n22 _ hQ => ?_)
                  obtain ⟨e9, hn22, hW22, hg22⟩ := hQ
                  cases e9
                  have hv22 : n0 < n0 + 1 ∧ n0 + 1 < n22 := by omega
                  have hfr22 : ∀ z, z < n0 → A22 z = A0 z := fun z hz => (hg22 z (by omega) (by omega)).trans (o21 z (by omega))
                  refine J_aload_n dX8_text_329 rfl rfl ?_
                  refine J_aload_n dX8_text_330 rfl rfl ?_
                  refine J_getf dX8_text_331 fl_X8_7 ((hfr22 v (by omega)).trans ((hfr0 v hvn).trans hA)) rfl ?_
                  refine J_bipush (v := 9) dX8_text_334 (by decide) ?_
                  refine J_isub dX8_text_336 ?_
                  rw [show nI kd - 9 = nI (kd - 9) from by rw [show (9 : Int32) = nI 9 from rfl, pk_sub (by omega)]]
                  refine J_aaldR (kd - 9) dX8_text_337 (Or.inr (Or.inr (Or.inr rfl))) ((hfr22 (n + 1) (by omega)).trans b2) rfl (by omega) (by decide) (c2 (kd - 9) (by omega)) ?_
                  refine J_callV (As := [_]) dX8_text_338 ml_X8_82 cal_J4_append_15ec4 im_J4_append_15ec4 se_J4_append_15ec4 hW22.1 rfl rfl rfl (Nat.le_of_ble_eq_true rfl) ⟨by omega, by show 8 + (2 + 11) + _ ≤ _; omega⟩ ⟨by omega, by omega⟩ (c_J4_append_15ec4 hst hW22 (strT (k := 19 + (kd - 9)) (by omega)) (by have h9 := hl; rw [etx] at h9; simp only [List.length_append, List.length_nil] at h9 ⊢; omega)) (fun _ _ _ _ hE => absurd hE.1 (fun z => nomatch z)) (fun v9 A23 n23 _ hQ => ?_)
                  obtain ⟨e9, hn23, hN23, v23, m23, hW23, hu23, hg23⟩ := hQ
                  cases e9
                  have hv23 : n0 < v23 ∧ v23 < n23 := by omega
                  have hfr23 : ∀ z, z < n0 → A23 z = A0 z := fun z hz => (hg23 z (by omega) (by omega) (by omega)).trans (hfr22 z hz)
                  refine J_aload_n dX8_text_341 rfl rfl ?_
                  refine J_getf dX8_text_342 fl_X8_26 ((hfr23 v (by omega)).trans ((hfr0 v hvn).trans hA)) rfl ?_
                  have tr23 := ta9.up (A' := A23) _ _ _ (fun z c hz => (hfr23 z (by have := lt0 _ _ hz; omega)).trans (hfr0 z (lt0 _ _ hz)))
                  obtain ⟨fa23, ca23⟩ := trA.cell _ _ _ tr23
                  refine J_callV (As := []) dX8_text_345 ml_X8_101 cal_X8_text im_X8_text se_X8_text ca23 rfl rfl rfl (Nat.le_of_ble_eq_true rfl) ⟨by omega, by show 8 + (4 + 11) + _ ≤ _; omega⟩ ⟨by omega, by omega⟩ (IH A23 n23 a9 ta tr23 (hk4 hha) (by have h9 := hl; rw [etx] at h9; simp only [List.length_append, List.length_nil] at h9; omega)) (fun _ _ _ _ hE => by obtain ⟨_, z, _⟩ := hE; exact nomatch z) (fun v9 A24 n24 hn24 hQ => ?_)
                  obtain ⟨w24, e9, hs24, hg24⟩ := hQ
                  cases e9
                  have hW24 := hW23.up (hg24 _ (by omega)) (hg24 _ hv23.2)
                  have hv24 : n0 < _ ∧ _ < n24 := ⟨hv23.1, Nat.lt_of_lt_of_le hv23.2 hn24⟩
                  have hfr24 : ∀ z, z < n0 → A24 z = A0 z := fun z hz => (hg24 z (by omega)).trans (hfr23 z hz)
                  refine J_callV (As := [_]) dX8_text_348 ml_X8_82 cal_J4_append_15ec4 im_J4_append_15ec4 se_J4_append_15ec4 hW24.1 rfl rfl rfl (Nat.le_of_ble_eq_true rfl) ⟨by omega, by show 8 + (2 + 11) + _ ≤ _; omega⟩ ⟨by omega, by omega⟩ (c_J4_append_15ec4 hst hW24 hs24 (by have h9 := hl; rw [etx] at h9; simp only [List.length_append, List.length_nil] at h9 ⊢; omega)) (fun _ _ _ _ hE => absurd hE.1 (fun z => nomatch z)) (fun v9 A25 n25 _ hQ => ?_)
                  obtain ⟨e9, hn25, hN25, v25, m25, hW25, hu25, hg25⟩ := hQ
                  cases e9
                  have hv25 : n0 < v25 ∧ v25 < n25 := by omega
                  have hfr25 : ∀ z, z < n0 → A25 z = A0 z := fun z hz => (hg25 z (by omega) (by omega) (by omega)).trans (hfr24 z hz)
                  refine J_ldcS 36 dX8_text_351 rfl ?_
                  refine J_callV (As := [_]) dX8_text_353 ml_X8_82 cal_J4_append_15ec4 im_J4_append_15ec4 se_J4_append_15ec4 hW25.1 rfl rfl rfl (Nat.le_of_ble_eq_true rfl) ⟨by omega, by show 8 + (2 + 11) + _ ≤ _; omega⟩ ⟨by omega, by omega⟩ (c_J4_append_15ec4 hst hW25 (strT (k := 36) (by decide)) (by have h9 := hl; rw [etx] at h9; simp only [List.length_append, List.length_nil] at h9 ⊢; omega)) (fun _ _ _ _ hE => absurd hE.1 (fun z => nomatch z)) (fun v9 A26 n26 _ hQ => ?_)
                  obtain ⟨e9, hn26, hN26, v26, m26, hW26, hu26, hg26⟩ := hQ
                  cases e9
                  have hv26 : n0 < v26 ∧ v26 < n26 := by omega
                  have hfr26 : ∀ z, z < n0 → A26 z = A0 z := fun z hz => (hg26 z (by omega) (by omega) (by omega)).trans (hfr25 z hz)
                  refine J_aload_n dX8_text_356 rfl rfl ?_
                  refine J_getf dX8_text_357 fl_X8_33 ((hfr26 v (by omega)).trans ((hfr0 v hvn).trans hA)) rfl ?_
                  have tr26 := tb9.up (A' := A26) _ _ _ (fun z c hz => (hfr26 z (by have := lt0 _ _ hz; omega)).trans (hfr0 z (lt0 _ _ hz)))
                  obtain ⟨fa26, ca26⟩ := trA.cell _ _ _ tr26
                  refine J_callV (As := []) dX8_text_360 ml_X8_101 cal_X8_text im_X8_text se_X8_text ca26 rfl rfl rfl (Nat.le_of_ble_eq_true rfl) ⟨by omega, by show 8 + (4 + 11) + _ ≤ _; omega⟩ ⟨by omega, by omega⟩ (IH A26 n26 b9 tb tr26 (hk5 hhb) (by have h9 := hl; rw [etx] at h9; simp only [List.length_append, List.length_nil] at h9; omega)) (fun _ _ _ _ hE => by obtain ⟨_, z, _⟩ := hE; exact nomatch z) (fun v9 A27 n27 hn27 hQ => ?_)
                  obtain ⟨w27, e9, hs27, hg27⟩ := hQ
                  cases e9
                  have hW27 := hW26.up (hg27 _ (by omega)) (hg27 _ hv26.2)
                  have hv27 : n0 < _ ∧ _ < n27 := ⟨hv26.1, Nat.lt_of_lt_of_le hv26.2 hn27⟩
                  have hfr27 : ∀ z, z < n0 → A27 z = A0 z := fun z hz => (hg27 z (by omega)).trans (hfr26 z hz)
                  refine J_callV (As := [_]) dX8_text_363 ml_X8_82 cal_J4_append_15ec4 im_J4_append_15ec4 se_J4_append_15ec4 hW27.1 rfl rfl rfl (Nat.le_of_ble_eq_true rfl) ⟨by omega, by show 8 + (2 + 11) + _ ≤ _; omega⟩ ⟨by omega, by omega⟩ (c_J4_append_15ec4 hst hW27 hs27 (by have h9 := hl; rw [etx] at h9; simp only [List.length_append, List.length_nil] at h9 ⊢; omega)) (fun _ _ _ _ hE => absurd hE.1 (fun z => nomatch z)) (fun v9 A28 n28 _ hQ => ?_)
                  obtain ⟨e9, hn28, hN28, v28, m28, hW28, hu28, hg28⟩ := hQ
                  cases e9
                  have hv28 : n0 < v28 ∧ v28 < n28 := by omega
                  have hfr28 : ∀ z, z < n0 → A28 z = A0 z := fun z hz => (hg28 z (by omega) (by omega) (by omega)).trans (hfr27 z hz)
                  refine J_ldcS 34 dX8_text_366 rfl ?_
                  refine J_callV (As := [_]) dX8_text_368 ml_X8_82 cal_J4_append_15ec4 im_J4_append_15ec4 se_J4_append_15ec4 hW28.1 rfl rfl rfl (Nat.le_of_ble_eq_true rfl) ⟨by omega, by show 8 + (2 + 11) + _ ≤ _; omega⟩ ⟨by omega, by omega⟩ (c_J4_append_15ec4 hst hW28 (strT (k := 34) (by decide)) (by have h9 := hl; rw [etx] at h9; simp only [List.length_append, List.length_nil] at h9 ⊢; omega)) (fun _ _ _ _ hE => absurd hE.1 (fun z => nomatch z)) (fun v9 A29 n29 _ hQ => ?_)
                  obtain ⟨e9, hn29, hN29, v29, m29, hW29, hu29, hg29⟩ := hQ
                  cases e9
                  have hv29 : n0 < v29 ∧ v29 < n29 := by omega
                  have hfr29 : ∀ z, z < n0 → A29 z = A0 z := fun z hz => (hg29 z (by omega) (by omega) (by omega)).trans (hfr28 z hz)
                  refine J_callV (As := []) dX8_text_371 ml_X8_89 cal_J4_toString_0e30d im_J4_toString_0e30d se_J4_toString_0e30d hW29.1 rfl rfl rfl (Nat.le_of_ble_eq_true rfl) ⟨by omega, by show 8 + (1 + 11) + _ ≤ _; omega⟩ ⟨by omega, by omega⟩ (c_J4_toString_0e30d hst hW29 (by have h9 := hl; rw [etx] at h9; simp only [List.length_append, List.length_nil] at h9 ⊢; omega)) (fun _ _ _ _ hE => absurd hE.1 (fun z => nomatch z)) (fun v9 A30 n30 _ hQ => ?_)
                  obtain ⟨e9, hn30, hT30, ⟨g9, hB9, hh9, hf9⟩, hg30⟩ := hQ
                  cases e9
                  refine J_areturn (C := _) dX8_text_374 rfl (by omega) (by omega) ?_
                  refine ⟨_, rfl, ?_, fun z hz => (hg30 z (by omega)).trans ((hfr29 z (by omega)).trans (hfr0 z hz))⟩
                  rw [etx]
                  exact Or.inr ⟨_, g9, hT30, hB9, hh9, hf9⟩
              · exfalso; simp only [i_lt, i_le, i_eq, i_0, i_1, i_8, ek, eu, show (13 : Int32).toInt = 13 from rfl, show (15 : Int32).toInt = 15 from rfl, show (25 : Int32).toInt = 25 from rfl, show (26 : Int32).toInt = 26 from rfl, show (27 : Int32).toInt = 27 from rfl] at h247; omega
            · exfalso; simp only [i_lt, i_le, i_eq, i_0, i_1, i_8, ek, eu, show (13 : Int32).toInt = 13 from rfl, show (15 : Int32).toInt = 15 from rfl, show (25 : Int32).toInt = 25 from rfl, show (26 : Int32).toInt = 26 from rfl, show (27 : Int32).toInt = 27 from rfl] at h207; omega
          · exfalso; simp only [i_lt, i_le, i_eq, i_0, i_1, i_8, ek, eu, show (13 : Int32).toInt = 13 from rfl, show (15 : Int32).toInt = 15 from rfl, show (25 : Int32).toInt = 25 from rfl, show (26 : Int32).toInt = 26 from rfl, show (27 : Int32).toInt = 27 from rfl] at h161; omega
        · exfalso; simp only [i_lt, i_le, i_eq, i_0, i_1, i_8, ek, eu, show (13 : Int32).toInt = 13 from rfl, show (15 : Int32).toInt = 15 from rfl, show (25 : Int32).toInt = 25 from rfl, show (26 : Int32).toInt = 26 from rfl, show (27 : Int32).toInt = 27 from rfl] at h149; omega
      · exfalso; simp only [i_lt, i_le, i_eq, i_0, i_1, i_8, ek, eu, show (13 : Int32).toInt = 13 from rfl, show (15 : Int32).toInt = 15 from rfl, show (25 : Int32).toInt = 25 from rfl, show (26 : Int32).toInt = 26 from rfl, show (27 : Int32).toInt = 27 from rfl] at h118; omega
    · have etx : txL (f + 1) ((kd, nu), (ta, tb)) = [] ++ txL f ta ++ tl (25 + (kd - 20)) ++ txL f tb := by rw [txL_s, if_neg (by omega), if_neg (by omega), if_neg (by omega), if_neg (by omega), if_neg (by omega), if_neg (by omega), if_pos (by omega)]
      have hha : hasA kd := ⟨by omega, by omega⟩
      obtain ⟨a9, ea, ta9⟩ := hca hha
      subst ea
      have hhb : hasB kd := ⟨by omega, by omega, by omega⟩
      obtain ⟨b9, eb, tb9⟩ := hcb hhb
      subst eb
      refine J_aload_n dX8_text_114 rfl rfl ?_
      refine J_getf dX8_text_115 fl_X8_7 ((hfr20 v (by omega)).trans ((hfr0 v hvn).trans hA)) rfl ?_
      refine J_if_ne (tgt := 144) dX8_text_118 rfl (fun h118 => ?_) (fun h118 => ?_)
      · refine J_aload_n dX8_text_144 rfl rfl ?_
        refine J_getf dX8_text_145 fl_X8_7 ((hfr20 v (by omega)).trans ((hfr0 v hvn).trans hA)) rfl ?_
        refine J_iconst (v := 1) dX8_text_148 (by decide) ?_
        refine J_icmp_ne (tgt := 155) dX8_text_149 rfl (fun h149 => ?_) (fun h149 => ?_)
        · refine J_aload_n dX8_text_155 rfl rfl ?_
          refine J_getf dX8_text_156 fl_X8_7 ((hfr20 v (by omega)).trans ((hfr0 v hvn).trans hA)) rfl ?_
          refine J_bipush (v := 8) dX8_text_159 (by decide) ?_
          refine J_icmp_ge (tgt := 201) dX8_text_161 rfl (fun h161 => ?_) (fun h161 => ?_)
          · refine J_aload_n dX8_text_201 rfl rfl ?_
            refine J_getf dX8_text_202 fl_X8_7 ((hfr20 v (by omega)).trans ((hfr0 v hvn).trans hA)) rfl ?_
            refine J_bipush (v := 8) dX8_text_205 (by decide) ?_
            refine J_icmp_ne (tgt := 241) dX8_text_207 rfl (fun h207 => ?_) (fun h207 => ?_)
            · refine J_aload_n dX8_text_241 rfl rfl ?_
              refine J_getf dX8_text_242 fl_X8_7 ((hfr20 v (by omega)).trans ((hfr0 v hvn).trans hA)) rfl ?_
              refine J_bipush (v := 13) dX8_text_245 (by decide) ?_
              refine J_icmp_ge (tgt := 313) dX8_text_247 rfl (fun h247 => ?_) (fun h247 => ?_)
              · refine J_aload_n dX8_text_313 rfl rfl ?_
                refine J_getf dX8_text_314 fl_X8_7 ((hfr20 v (by omega)).trans ((hfr0 v hvn).trans hA)) rfl ?_
                refine J_bipush (v := 15) dX8_text_317 (by decide) ?_
                refine J_icmp_ge (tgt := 375) dX8_text_319 rfl (fun h319 => ?_) (fun h319 => ?_)
                · refine J_aload_n dX8_text_375 rfl rfl ?_
                  refine J_getf dX8_text_376 fl_X8_7 ((hfr20 v (by omega)).trans ((hfr0 v hvn).trans hA)) rfl ?_
                  refine J_bipush (v := 25) dX8_text_379 (by decide) ?_
                  refine J_icmp_ge (tgt := 427) dX8_text_381 rfl (fun h381 => ?_) (fun h381 => ?_)
                  · exfalso; simp only [i_lt, i_le, i_eq, i_0, i_1, i_8, ek, eu, show (13 : Int32).toInt = 13 from rfl, show (15 : Int32).toInt = 15 from rfl, show (25 : Int32).toInt = 25 from rfl, show (26 : Int32).toInt = 26 from rfl, show (27 : Int32).toInt = 27 from rfl] at h381; omega
                  · refine J_new (fs := [.null, .int 0, .int 0, .int 0]) dX8_text_384 k_9 cl_X8_79 ins_java_lang_StringBuilder in_java_lang_StringBuilder (fun q hq => by rcases (show q = 0 ∨ q = 1 ∨ q = 2 ∨ q = 3 by omega) with rfl | rfl | rfl | rfl <;> rfl) (fun v hv q h => by subst h; simp at hv) (by omega) (by omega) ?_
                    refine J_up (fun A21 g21 o21 => ?_)
                    refine J_dup dX8_text_387 rfl ?_
                    refine J_callI (As := []) dX8_text_388 (Or.inl ml_X8_81) cal_J4_init_da8c8 rfl rfl rfl im_J4_init_da8c8 rfl (Nat.le_of_ble_eq_true rfl) ⟨by omega, by show 8 + (1 + 11) + _ ≤ _; omega⟩ ⟨by omega, by omega⟩ (c_J4_init_da8c8 hst g21) (fun v9 A22 n22 _ hQ => ?_)
                    obtain ⟨e9, hn22, hW22, hg22⟩ := hQ
                    cases e9
                    have hv22 : n0 < n0 + 1 ∧ n0 + 1 < n22 := by omega
                    have hfr22 : ∀ z, z < n0 → A22 z = A0 z := fun z hz => (hg22 z (by omega) (by omega)).trans (o21 z (by omega))
                    refine J_aload_n dX8_text_391 rfl rfl ?_
                    refine J_getf dX8_text_392 fl_X8_26 ((hfr22 v (by omega)).trans ((hfr0 v hvn).trans hA)) rfl ?_
                    have tr22 := ta9.up (A' := A22) _ _ _ (fun z c hz => (hfr22 z (by have := lt0 _ _ hz; omega)).trans (hfr0 z (lt0 _ _ hz)))
                    obtain ⟨fa22, ca22⟩ := trA.cell _ _ _ tr22
                    refine J_callV (As := []) dX8_text_395 ml_X8_101 cal_X8_text im_X8_text se_X8_text ca22 rfl rfl rfl (Nat.le_of_ble_eq_true rfl) ⟨by omega, by show 8 + (4 + 11) + _ ≤ _; omega⟩ ⟨by omega, by omega⟩ (IH A22 n22 a9 ta tr22 (hk4 hha) (by have h9 := hl; rw [etx] at h9; simp only [List.length_append, List.length_nil] at h9; omega)) (fun _ _ _ _ hE => by obtain ⟨_, z, _⟩ := hE; exact nomatch z) (fun v9 A23 n23 hn23 hQ => ?_)
                    obtain ⟨w23, e9, hs23, hg23⟩ := hQ
                    cases e9
                    have hW23 := hW22.up (hg23 _ (by omega)) (hg23 _ hv22.2)
                    have hv23 : n0 < _ ∧ _ < n23 := ⟨hv22.1, Nat.lt_of_lt_of_le hv22.2 hn23⟩
                    have hfr23 : ∀ z, z < n0 → A23 z = A0 z := fun z hz => (hg23 z (by omega)).trans (hfr22 z hz)
                    refine J_callV (As := [_]) dX8_text_398 ml_X8_82 cal_J4_append_15ec4 im_J4_append_15ec4 se_J4_append_15ec4 hW23.1 rfl rfl rfl (Nat.le_of_ble_eq_true rfl) ⟨by omega, by show 8 + (2 + 11) + _ ≤ _; omega⟩ ⟨by omega, by omega⟩ (c_J4_append_15ec4 hst hW23 hs23 (by have h9 := hl; rw [etx] at h9; simp only [List.length_append, List.length_nil] at h9 ⊢; omega)) (fun _ _ _ _ hE => absurd hE.1 (fun z => nomatch z)) (fun v9 A24 n24 _ hQ => ?_)
                    obtain ⟨e9, hn24, hN24, v24, m24, hW24, hu24, hg24⟩ := hQ
                    cases e9
                    have hv24 : n0 < v24 ∧ v24 < n24 := by omega
                    have hfr24 : ∀ z, z < n0 → A24 z = A0 z := fun z hz => (hg24 z (by omega) (by omega) (by omega)).trans (hfr23 z hz)
                    refine J_aload_n dX8_text_401 rfl rfl ?_
                    refine J_aload_n dX8_text_402 rfl rfl ?_
                    refine J_getf dX8_text_403 fl_X8_7 ((hfr24 v (by omega)).trans ((hfr0 v hvn).trans hA)) rfl ?_
                    refine J_bipush (v := 20) dX8_text_406 (by decide) ?_
                    refine J_isub dX8_text_408 ?_
                    rw [show nI kd - 20 = nI (kd - 20) from by rw [show (20 : Int32) = nI 20 from rfl, pk_sub (by omega)]]
                    refine J_aaldR (kd - 20) dX8_text_409 (Or.inr (Or.inr (Or.inr rfl))) ((hfr24 (n + 1 + 1) (by omega)).trans b3) rfl (by omega) (by decide) (c3 (kd - 20) (by omega)) ?_
                    refine J_callV (As := [_]) dX8_text_410 ml_X8_82 cal_J4_append_15ec4 im_J4_append_15ec4 se_J4_append_15ec4 hW24.1 rfl rfl rfl (Nat.le_of_ble_eq_true rfl) ⟨by omega, by show 8 + (2 + 11) + _ ≤ _; omega⟩ ⟨by omega, by omega⟩ (c_J4_append_15ec4 hst hW24 (strT (k := 25 + (kd - 20)) (by omega)) (by have h9 := hl; rw [etx] at h9; simp only [List.length_append, List.length_nil] at h9 ⊢; omega)) (fun _ _ _ _ hE => absurd hE.1 (fun z => nomatch z)) (fun v9 A25 n25 _ hQ => ?_)
                    obtain ⟨e9, hn25, hN25, v25, m25, hW25, hu25, hg25⟩ := hQ
                    cases e9
                    have hv25 : n0 < v25 ∧ v25 < n25 := by omega
                    have hfr25 : ∀ z, z < n0 → A25 z = A0 z := fun z hz => (hg25 z (by omega) (by omega) (by omega)).trans (hfr24 z hz)
                    refine J_aload_n dX8_text_413 rfl rfl ?_
                    refine J_getf dX8_text_414 fl_X8_33 ((hfr25 v (by omega)).trans ((hfr0 v hvn).trans hA)) rfl ?_
                    have tr25 := tb9.up (A' := A25) _ _ _ (fun z c hz => (hfr25 z (by have := lt0 _ _ hz; omega)).trans (hfr0 z (lt0 _ _ hz)))
                    obtain ⟨fa25, ca25⟩ := trA.cell _ _ _ tr25
                    refine J_callV (As := []) dX8_text_417 ml_X8_101 cal_X8_text im_X8_text se_X8_text ca25 rfl rfl rfl (Nat.le_of_ble_eq_true rfl) ⟨by omega, by show 8 + (4 + 11) + _ ≤ _; omega⟩ ⟨by omega, by omega⟩ (IH A25 n25 b9 tb tr25 (hk5 hhb) (by have h9 := hl; rw [etx] at h9; simp only [List.length_append, List.length_nil] at h9; omega)) (fun _ _ _ _ hE => by obtain ⟨_, z, _⟩ := hE; exact nomatch z) (fun v9 A26 n26 hn26 hQ => ?_)
                    obtain ⟨w26, e9, hs26, hg26⟩ := hQ
                    cases e9
                    have hW26 := hW25.up (hg26 _ (by omega)) (hg26 _ hv25.2)
                    have hv26 : n0 < _ ∧ _ < n26 := ⟨hv25.1, Nat.lt_of_lt_of_le hv25.2 hn26⟩
                    have hfr26 : ∀ z, z < n0 → A26 z = A0 z := fun z hz => (hg26 z (by omega)).trans (hfr25 z hz)
                    refine J_callV (As := [_]) dX8_text_420 ml_X8_82 cal_J4_append_15ec4 im_J4_append_15ec4 se_J4_append_15ec4 hW26.1 rfl rfl rfl (Nat.le_of_ble_eq_true rfl) ⟨by omega, by show 8 + (2 + 11) + _ ≤ _; omega⟩ ⟨by omega, by omega⟩ (c_J4_append_15ec4 hst hW26 hs26 (by have h9 := hl; rw [etx] at h9; simp only [List.length_append, List.length_nil] at h9 ⊢; omega)) (fun _ _ _ _ hE => absurd hE.1 (fun z => nomatch z)) (fun v9 A27 n27 _ hQ => ?_)
                    obtain ⟨e9, hn27, hN27, v27, m27, hW27, hu27, hg27⟩ := hQ
                    cases e9
                    have hv27 : n0 < v27 ∧ v27 < n27 := by omega
                    have hfr27 : ∀ z, z < n0 → A27 z = A0 z := fun z hz => (hg27 z (by omega) (by omega) (by omega)).trans (hfr26 z hz)
                    refine J_callV (As := []) dX8_text_423 ml_X8_89 cal_J4_toString_0e30d im_J4_toString_0e30d se_J4_toString_0e30d hW27.1 rfl rfl rfl (Nat.le_of_ble_eq_true rfl) ⟨by omega, by show 8 + (1 + 11) + _ ≤ _; omega⟩ ⟨by omega, by omega⟩ (c_J4_toString_0e30d hst hW27 (by have h9 := hl; rw [etx] at h9; simp only [List.length_append, List.length_nil] at h9 ⊢; omega)) (fun _ _ _ _ hE => absurd hE.1 (fun z => nomatch z)) (fun v9 A28 n28 _ hQ => ?_)
                    obtain ⟨e9, hn28, hT28, ⟨g9, hB9, hh9, hf9⟩, hg28⟩ := hQ
                    cases e9
                    refine J_areturn (C := _) dX8_text_426 rfl (by omega) (by omega) ?_
                    refine ⟨_, rfl, ?_, fun z hz => (hg28 z (by omega)).trans ((hfr27 z (by omega)).trans (hfr0 z hz))⟩
                    rw [etx]
                    exact Or.inr ⟨_, g9, hT28, hB9, hh9, hf9⟩
                · exfalso; simp only [i_lt, i_le, i_eq, i_0, i_1, i_8, ek, eu, show (13 : Int32).toInt = 13 from rfl, show (15 : Int32).toInt = 15 from rfl, show (25 : Int32).toInt = 25 from rfl, show (26 : Int32).toInt = 26 from rfl, show (27 : Int32).toInt = 27 from rfl] at h319; omega
              · exfalso; simp only [i_lt, i_le, i_eq, i_0, i_1, i_8, ek, eu, show (13 : Int32).toInt = 13 from rfl, show (15 : Int32).toInt = 15 from rfl, show (25 : Int32).toInt = 25 from rfl, show (26 : Int32).toInt = 26 from rfl, show (27 : Int32).toInt = 27 from rfl] at h247; omega
            · exfalso; simp only [i_lt, i_le, i_eq, i_0, i_1, i_8, ek, eu, show (13 : Int32).toInt = 13 from rfl, show (15 : Int32).toInt = 15 from rfl, show (25 : Int32).toInt = 25 from rfl, show (26 : Int32).toInt = 26 from rfl, show (27 : Int32).toInt = 27 from rfl] at h207; omega
          · exfalso; simp only [i_lt, i_le, i_eq, i_0, i_1, i_8, ek, eu, show (13 : Int32).toInt = 13 from rfl, show (15 : Int32).toInt = 15 from rfl, show (25 : Int32).toInt = 25 from rfl, show (26 : Int32).toInt = 26 from rfl, show (27 : Int32).toInt = 27 from rfl] at h161; omega
        · exfalso; simp only [i_lt, i_le, i_eq, i_0, i_1, i_8, ek, eu, show (13 : Int32).toInt = 13 from rfl, show (15 : Int32).toInt = 15 from rfl, show (25 : Int32).toInt = 25 from rfl, show (26 : Int32).toInt = 26 from rfl, show (27 : Int32).toInt = 27 from rfl] at h149; omega
      · exfalso; simp only [i_lt, i_le, i_eq, i_0, i_1, i_8, ek, eu, show (13 : Int32).toInt = 13 from rfl, show (15 : Int32).toInt = 15 from rfl, show (25 : Int32).toInt = 25 from rfl, show (26 : Int32).toInt = 26 from rfl, show (27 : Int32).toInt = 27 from rfl] at h118; omega
    · have etx : txL (f + 1) ((kd, nu), (ta, tb)) = tl 37 := by rw [txL_s, if_neg (by omega), if_neg (by omega), if_neg (by omega), if_neg (by omega), if_neg (by omega), if_neg (by omega), if_neg (by omega), if_pos (by omega)]
      refine J_aload_n dX8_text_114 rfl rfl ?_
      refine J_getf dX8_text_115 fl_X8_7 ((hfr20 v (by omega)).trans ((hfr0 v hvn).trans hA)) rfl ?_
      refine J_if_ne (tgt := 144) dX8_text_118 rfl (fun h118 => ?_) (fun h118 => ?_)
      · refine J_aload_n dX8_text_144 rfl rfl ?_
        refine J_getf dX8_text_145 fl_X8_7 ((hfr20 v (by omega)).trans ((hfr0 v hvn).trans hA)) rfl ?_
        refine J_iconst (v := 1) dX8_text_148 (by decide) ?_
        refine J_icmp_ne (tgt := 155) dX8_text_149 rfl (fun h149 => ?_) (fun h149 => ?_)
        · refine J_aload_n dX8_text_155 rfl rfl ?_
          refine J_getf dX8_text_156 fl_X8_7 ((hfr20 v (by omega)).trans ((hfr0 v hvn).trans hA)) rfl ?_
          refine J_bipush (v := 8) dX8_text_159 (by decide) ?_
          refine J_icmp_ge (tgt := 201) dX8_text_161 rfl (fun h161 => ?_) (fun h161 => ?_)
          · refine J_aload_n dX8_text_201 rfl rfl ?_
            refine J_getf dX8_text_202 fl_X8_7 ((hfr20 v (by omega)).trans ((hfr0 v hvn).trans hA)) rfl ?_
            refine J_bipush (v := 8) dX8_text_205 (by decide) ?_
            refine J_icmp_ne (tgt := 241) dX8_text_207 rfl (fun h207 => ?_) (fun h207 => ?_)
            · refine J_aload_n dX8_text_241 rfl rfl ?_
              refine J_getf dX8_text_242 fl_X8_7 ((hfr20 v (by omega)).trans ((hfr0 v hvn).trans hA)) rfl ?_
              refine J_bipush (v := 13) dX8_text_245 (by decide) ?_
              refine J_icmp_ge (tgt := 313) dX8_text_247 rfl (fun h247 => ?_) (fun h247 => ?_)
              · refine J_aload_n dX8_text_313 rfl rfl ?_
                refine J_getf dX8_text_314 fl_X8_7 ((hfr20 v (by omega)).trans ((hfr0 v hvn).trans hA)) rfl ?_
                refine J_bipush (v := 15) dX8_text_317 (by decide) ?_
                refine J_icmp_ge (tgt := 375) dX8_text_319 rfl (fun h319 => ?_) (fun h319 => ?_)
                · refine J_aload_n dX8_text_375 rfl rfl ?_
                  refine J_getf dX8_text_376 fl_X8_7 ((hfr20 v (by omega)).trans ((hfr0 v hvn).trans hA)) rfl ?_
                  refine J_bipush (v := 25) dX8_text_379 (by decide) ?_
                  refine J_icmp_ge (tgt := 427) dX8_text_381 rfl (fun h381 => ?_) (fun h381 => ?_)
                  · refine J_aload_n dX8_text_427 rfl rfl ?_
                    refine J_getf dX8_text_428 fl_X8_7 ((hfr20 v (by omega)).trans ((hfr0 v hvn).trans hA)) rfl ?_
                    refine J_bipush (v := 25) dX8_text_431 (by decide) ?_
                    refine J_icmp_ne (tgt := 439) dX8_text_433 rfl (fun h433 => ?_) (fun h433 => ?_)
                    · exfalso; simp only [i_lt, i_le, i_eq, i_0, i_1, i_8, ek, eu, show (13 : Int32).toInt = 13 from rfl, show (15 : Int32).toInt = 15 from rfl, show (25 : Int32).toInt = 25 from rfl, show (26 : Int32).toInt = 26 from rfl, show (27 : Int32).toInt = 27 from rfl] at h433; omega
                    · refine J_ldcS 37 dX8_text_436 rfl ?_
                      refine J_areturn (C := _) dX8_text_438 rfl (by omega) (by omega) ?_
                      refine ⟨_, rfl, ?_, hfr0⟩
                      rw [etx]
                      exact strV.lit (k := 37) (by decide)
                  · exfalso; simp only [i_lt, i_le, i_eq, i_0, i_1, i_8, ek, eu, show (13 : Int32).toInt = 13 from rfl, show (15 : Int32).toInt = 15 from rfl, show (25 : Int32).toInt = 25 from rfl, show (26 : Int32).toInt = 26 from rfl, show (27 : Int32).toInt = 27 from rfl] at h381; omega
                · exfalso; simp only [i_lt, i_le, i_eq, i_0, i_1, i_8, ek, eu, show (13 : Int32).toInt = 13 from rfl, show (15 : Int32).toInt = 15 from rfl, show (25 : Int32).toInt = 25 from rfl, show (26 : Int32).toInt = 26 from rfl, show (27 : Int32).toInt = 27 from rfl] at h319; omega
              · exfalso; simp only [i_lt, i_le, i_eq, i_0, i_1, i_8, ek, eu, show (13 : Int32).toInt = 13 from rfl, show (15 : Int32).toInt = 15 from rfl, show (25 : Int32).toInt = 25 from rfl, show (26 : Int32).toInt = 26 from rfl, show (27 : Int32).toInt = 27 from rfl] at h247; omega
            · exfalso; simp only [i_lt, i_le, i_eq, i_0, i_1, i_8, ek, eu, show (13 : Int32).toInt = 13 from rfl, show (15 : Int32).toInt = 15 from rfl, show (25 : Int32).toInt = 25 from rfl, show (26 : Int32).toInt = 26 from rfl, show (27 : Int32).toInt = 27 from rfl] at h207; omega
          · exfalso; simp only [i_lt, i_le, i_eq, i_0, i_1, i_8, ek, eu, show (13 : Int32).toInt = 13 from rfl, show (15 : Int32).toInt = 15 from rfl, show (25 : Int32).toInt = 25 from rfl, show (26 : Int32).toInt = 26 from rfl, show (27 : Int32).toInt = 27 from rfl] at h161; omega
        · exfalso; simp only [i_lt, i_le, i_eq, i_0, i_1, i_8, ek, eu, show (13 : Int32).toInt = 13 from rfl, show (15 : Int32).toInt = 15 from rfl, show (25 : Int32).toInt = 25 from rfl, show (26 : Int32).toInt = 26 from rfl, show (27 : Int32).toInt = 27 from rfl] at h149; omega
      · exfalso; simp only [i_lt, i_le, i_eq, i_0, i_1, i_8, ek, eu, show (13 : Int32).toInt = 13 from rfl, show (15 : Int32).toInt = 15 from rfl, show (25 : Int32).toInt = 25 from rfl, show (26 : Int32).toInt = 26 from rfl, show (27 : Int32).toInt = 27 from rfl] at h118; omega
    · have etx : txL (f + 1) ((kd, nu), (ta, tb)) = [] ++ tl 38 ++ txL f ta ++ tl 39 := by rw [txL_s, if_neg (by omega), if_neg (by omega), if_neg (by omega), if_neg (by omega), if_neg (by omega), if_neg (by omega), if_neg (by omega), if_neg (by omega), if_pos (by omega)]
      have hha : hasA kd := ⟨by omega, by omega⟩
      obtain ⟨a9, ea, ta9⟩ := hca hha
      subst ea
      refine J_aload_n dX8_text_114 rfl rfl ?_
      refine J_getf dX8_text_115 fl_X8_7 ((hfr20 v (by omega)).trans ((hfr0 v hvn).trans hA)) rfl ?_
      refine J_if_ne (tgt := 144) dX8_text_118 rfl (fun h118 => ?_) (fun h118 => ?_)
      · refine J_aload_n dX8_text_144 rfl rfl ?_
        refine J_getf dX8_text_145 fl_X8_7 ((hfr20 v (by omega)).trans ((hfr0 v hvn).trans hA)) rfl ?_
        refine J_iconst (v := 1) dX8_text_148 (by decide) ?_
        refine J_icmp_ne (tgt := 155) dX8_text_149 rfl (fun h149 => ?_) (fun h149 => ?_)
        · refine J_aload_n dX8_text_155 rfl rfl ?_
          refine J_getf dX8_text_156 fl_X8_7 ((hfr20 v (by omega)).trans ((hfr0 v hvn).trans hA)) rfl ?_
          refine J_bipush (v := 8) dX8_text_159 (by decide) ?_
          refine J_icmp_ge (tgt := 201) dX8_text_161 rfl (fun h161 => ?_) (fun h161 => ?_)
          · refine J_aload_n dX8_text_201 rfl rfl ?_
            refine J_getf dX8_text_202 fl_X8_7 ((hfr20 v (by omega)).trans ((hfr0 v hvn).trans hA)) rfl ?_
            refine J_bipush (v := 8) dX8_text_205 (by decide) ?_
            refine J_icmp_ne (tgt := 241) dX8_text_207 rfl (fun h207 => ?_) (fun h207 => ?_)
            · refine J_aload_n dX8_text_241 rfl rfl ?_
              refine J_getf dX8_text_242 fl_X8_7 ((hfr20 v (by omega)).trans ((hfr0 v hvn).trans hA)) rfl ?_
              refine J_bipush (v := 13) dX8_text_245 (by decide) ?_
              refine J_icmp_ge (tgt := 313) dX8_text_247 rfl (fun h247 => ?_) (fun h247 => ?_)
              · refine J_aload_n dX8_text_313 rfl rfl ?_
                refine J_getf dX8_text_314 fl_X8_7 ((hfr20 v (by omega)).trans ((hfr0 v hvn).trans hA)) rfl ?_
                refine J_bipush (v := 15) dX8_text_317 (by decide) ?_
                refine J_icmp_ge (tgt := 375) dX8_text_319 rfl (fun h319 => ?_) (fun h319 => ?_)
                · refine J_aload_n dX8_text_375 rfl rfl ?_
                  refine J_getf dX8_text_376 fl_X8_7 ((hfr20 v (by omega)).trans ((hfr0 v hvn).trans hA)) rfl ?_
                  refine J_bipush (v := 25) dX8_text_379 (by decide) ?_
                  refine J_icmp_ge (tgt := 427) dX8_text_381 rfl (fun h381 => ?_) (fun h381 => ?_)
                  · refine J_aload_n dX8_text_427 rfl rfl ?_
                    refine J_getf dX8_text_428 fl_X8_7 ((hfr20 v (by omega)).trans ((hfr0 v hvn).trans hA)) rfl ?_
                    refine J_bipush (v := 25) dX8_text_431 (by decide) ?_
                    refine J_icmp_ne (tgt := 439) dX8_text_433 rfl (fun h433 => ?_) (fun h433 => ?_)
                    · refine J_aload_n dX8_text_439 rfl rfl ?_
                      refine J_getf dX8_text_440 fl_X8_7 ((hfr20 v (by omega)).trans ((hfr0 v hvn).trans hA)) rfl ?_
                      refine J_bipush (v := 26) dX8_text_443 (by decide) ?_
                      refine J_icmp_ne (tgt := 481) dX8_text_445 rfl (fun h445 => ?_) (fun h445 => ?_)
                      · exfalso; simp only [i_lt, i_le, i_eq, i_0, i_1, i_8, ek, eu, show (13 : Int32).toInt = 13 from rfl, show (15 : Int32).toInt = 15 from rfl, show (25 : Int32).toInt = 25 from rfl, show (26 : Int32).toInt = 26 from rfl, show (27 : Int32).toInt = 27 from rfl] at h445; omega
                      · refine J_new (fs := [.null, .int 0, .int 0, .int 0]) dX8_text_448 k_9 cl_X8_79 ins_java_lang_StringBuilder in_java_lang_StringBuilder (fun q hq => by rcases (show q = 0 ∨ q = 1 ∨ q = 2 ∨ q = 3 by omega) with rfl | rfl | rfl | rfl <;> rfl) (fun v hv q h => by subst h; simp at hv) (by omega) (by omega) ?_
                        refine J_up (fun A21 g21 o21 => ?_)
                        refine J_dup dX8_text_451 rfl ?_
                        refine J_callI (As := []) dX8_text_452 (Or.inl ml_X8_81) cal_J4_init_da8c8 rfl rfl rfl im_J4_init_da8c8 rfl (Nat.le_of_ble_eq_true rfl) ⟨by omega, by show 8 + (1 + 11) + _ ≤ _; omega⟩ ⟨by omega, by omega⟩ (c_J4_init_da8c8 hst g21) (fun v9 A22 n22 _ hQ => ?_)
                        obtain ⟨e9, hn22, hW22, hg22⟩ := hQ
                        cases e9
                        have hv22 : n0 < n0 + 1 ∧ n0 + 1 < n22 := by omega
                        have hfr22 : ∀ z, z < n0 → A22 z = A0 z := fun z hz => (hg22 z (by omega) (by omega)).trans (o21 z (by omega))
                        refine J_ldcS 38 dX8_text_455 rfl ?_
                        refine J_callV (As := [_]) dX8_text_457 ml_X8_82 cal_J4_append_15ec4 im_J4_append_15ec4 se_J4_append_15ec4 hW22.1 rfl rfl rfl (Nat.le_of_ble_eq_true rfl) ⟨by omega, by show 8 + (2 + 11) + _ ≤ _; omega⟩ ⟨by omega, by omega⟩ (c_J4_append_15ec4 hst hW22 (strT (k := 38) (by decide)) (by have h9 := hl; rw [etx] at h9; simp only [List.length_append, List.length_nil] at h9 ⊢; omega)) (fun _ _ _ _ hE => absurd hE.1 (fun z => nomatch z)) (fun v9 A23 n23 _ hQ => ?_)
                        obtain ⟨e9, hn23, hN23, v23, m23, hW23, hu23, hg23⟩ := hQ
                        cases e9
                        have hv23 : n0 < v23 ∧ v23 < n23 := by omega
                        have hfr23 : ∀ z, z < n0 → A23 z = A0 z := fun z hz => (hg23 z (by omega) (by omega) (by omega)).trans (hfr22 z hz)
                        refine J_aload_n dX8_text_460 rfl rfl ?_
                        refine J_getf dX8_text_461 fl_X8_26 ((hfr23 v (by omega)).trans ((hfr0 v hvn).trans hA)) rfl ?_
                        have tr23 := ta9.up (A' := A23) _ _ _ (fun z c hz => (hfr23 z (by have := lt0 _ _ hz; omega)).trans (hfr0 z (lt0 _ _ hz)))
                        obtain ⟨fa23, ca23⟩ := trA.cell _ _ _ tr23
                        refine J_callV (As := []) dX8_text_464 ml_X8_101 cal_X8_text im_X8_text se_X8_text ca23 rfl rfl rfl (Nat.le_of_ble_eq_true rfl) ⟨by omega, by show 8 + (4 + 11) + _ ≤ _; omega⟩ ⟨by omega, by omega⟩ (IH A23 n23 a9 ta tr23 (hk4 hha) (by have h9 := hl; rw [etx] at h9; simp only [List.length_append, List.length_nil] at h9; omega)) (fun _ _ _ _ hE => by obtain ⟨_, z, _⟩ := hE; exact nomatch z) (fun v9 A24 n24 hn24 hQ => ?_)
                        obtain ⟨w24, e9, hs24, hg24⟩ := hQ
                        cases e9
                        have hW24 := hW23.up (hg24 _ (by omega)) (hg24 _ hv23.2)
                        have hv24 : n0 < _ ∧ _ < n24 := ⟨hv23.1, Nat.lt_of_lt_of_le hv23.2 hn24⟩
                        have hfr24 : ∀ z, z < n0 → A24 z = A0 z := fun z hz => (hg24 z (by omega)).trans (hfr23 z hz)
                        refine J_callV (As := [_]) dX8_text_467 ml_X8_82 cal_J4_append_15ec4 im_J4_append_15ec4 se_J4_append_15ec4 hW24.1 rfl rfl rfl (Nat.le_of_ble_eq_true rfl) ⟨by omega, by show 8 + (2 + 11) + _ ≤ _; omega⟩ ⟨by omega, by omega⟩ (c_J4_append_15ec4 hst hW24 hs24 (by have h9 := hl; rw [etx] at h9; simp only [List.length_append, List.length_nil] at h9 ⊢; omega)) (fun _ _ _ _ hE => absurd hE.1 (fun z => nomatch z)) (fun v9 A25 n25 _ hQ => ?_)
                        obtain ⟨e9, hn25, hN25, v25, m25, hW25, hu25, hg25⟩ := hQ
                        cases e9
                        have hv25 : n0 < v25 ∧ v25 < n25 := by omega
                        have hfr25 : ∀ z, z < n0 → A25 z = A0 z := fun z hz => (hg25 z (by omega) (by omega) (by omega)).trans (hfr24 z hz)
                        refine J_ldcS 39 dX8_text_470 rfl ?_
                        refine J_callV (As := [_]) dX8_text_472 ml_X8_82 cal_J4_append_15ec4 im_J4_append_15ec4 se_J4_append_15ec4 hW25.1 rfl rfl rfl (Nat.le_of_ble_eq_true rfl) ⟨by omega, by show 8 + (2 + 11) + _ ≤ _; omega⟩ ⟨by omega, by omega⟩ (c_J4_append_15ec4 hst hW25 (strT (k := 39) (by decide)) (by have h9 := hl; rw [etx] at h9; simp only [List.length_append, List.length_nil] at h9 ⊢; omega)) (fun _ _ _ _ hE => absurd hE.1 (fun z => nomatch z)) (fun v9 A26 n26 _ hQ => ?_)
                        obtain ⟨e9, hn26, hN26, v26, m26, hW26, hu26, hg26⟩ := hQ
                        cases e9
                        have hv26 : n0 < v26 ∧ v26 < n26 := by omega
                        have hfr26 : ∀ z, z < n0 → A26 z = A0 z := fun z hz => (hg26 z (by omega) (by omega) (by omega)).trans (hfr25 z hz)
                        refine J_callV (As := []) dX8_text_475 ml_X8_89 cal_J4_toString_0e30d im_J4_toString_0e30d se_J4_toString_0e30d hW26.1 rfl rfl rfl (Nat.le_of_ble_eq_true rfl) ⟨by omega, by show 8 + (1 + 11) + _ ≤ _; omega⟩ ⟨by omega, by omega⟩ (c_J4_toString_0e30d hst hW26 (by have h9 := hl; rw [etx] at h9; simp only [List.length_append, List.length_nil] at h9 ⊢; omega)) (fun _ _ _ _ hE => absurd hE.1 (fun z => nomatch z)) (fun v9 A27 n27 _ hQ => ?_)
                        obtain ⟨e9, hn27, hT27, ⟨g9, hB9, hh9, hf9⟩, hg27⟩ := hQ
                        cases e9
                        refine J_goto (tgt := 550) dX8_text_478 rfl ?_
                        refine J_areturn (C := _) dX8_text_550 rfl (by omega) (by omega) ?_
                        refine ⟨_, rfl, ?_, fun z hz => (hg27 z (by omega)).trans ((hfr26 z (by omega)).trans (hfr0 z hz))⟩
                        rw [etx]
                        exact Or.inr ⟨_, g9, hT27, hB9, hh9, hf9⟩
                    · exfalso; simp only [i_lt, i_le, i_eq, i_0, i_1, i_8, ek, eu, show (13 : Int32).toInt = 13 from rfl, show (15 : Int32).toInt = 15 from rfl, show (25 : Int32).toInt = 25 from rfl, show (26 : Int32).toInt = 26 from rfl, show (27 : Int32).toInt = 27 from rfl] at h433; omega
                  · exfalso; simp only [i_lt, i_le, i_eq, i_0, i_1, i_8, ek, eu, show (13 : Int32).toInt = 13 from rfl, show (15 : Int32).toInt = 15 from rfl, show (25 : Int32).toInt = 25 from rfl, show (26 : Int32).toInt = 26 from rfl, show (27 : Int32).toInt = 27 from rfl] at h381; omega
                · exfalso; simp only [i_lt, i_le, i_eq, i_0, i_1, i_8, ek, eu, show (13 : Int32).toInt = 13 from rfl, show (15 : Int32).toInt = 15 from rfl, show (25 : Int32).toInt = 25 from rfl, show (26 : Int32).toInt = 26 from rfl, show (27 : Int32).toInt = 27 from rfl] at h319; omega
              · exfalso; simp only [i_lt, i_le, i_eq, i_0, i_1, i_8, ek, eu, show (13 : Int32).toInt = 13 from rfl, show (15 : Int32).toInt = 15 from rfl, show (25 : Int32).toInt = 25 from rfl, show (26 : Int32).toInt = 26 from rfl, show (27 : Int32).toInt = 27 from rfl] at h247; omega
            · exfalso; simp only [i_lt, i_le, i_eq, i_0, i_1, i_8, ek, eu, show (13 : Int32).toInt = 13 from rfl, show (15 : Int32).toInt = 15 from rfl, show (25 : Int32).toInt = 25 from rfl, show (26 : Int32).toInt = 26 from rfl, show (27 : Int32).toInt = 27 from rfl] at h207; omega
          · exfalso; simp only [i_lt, i_le, i_eq, i_0, i_1, i_8, ek, eu, show (13 : Int32).toInt = 13 from rfl, show (15 : Int32).toInt = 15 from rfl, show (25 : Int32).toInt = 25 from rfl, show (26 : Int32).toInt = 26 from rfl, show (27 : Int32).toInt = 27 from rfl] at h161; omega
        · exfalso; simp only [i_lt, i_le, i_eq, i_0, i_1, i_8, ek, eu, show (13 : Int32).toInt = 13 from rfl, show (15 : Int32).toInt = 15 from rfl, show (25 : Int32).toInt = 25 from rfl, show (26 : Int32).toInt = 26 from rfl, show (27 : Int32).toInt = 27 from rfl] at h149; omega
      · exfalso; simp only [i_lt, i_le, i_eq, i_0, i_1, i_8, ek, eu, show (13 : Int32).toInt = 13 from rfl, show (15 : Int32).toInt = 15 from rfl, show (25 : Int32).toInt = 25 from rfl, show (26 : Int32).toInt = 26 from rfl, show (27 : Int32).toInt = 27 from rfl] at h118; omega
    · have etx : txL (f + 1) ((kd, nu), (ta, tb)) = [] ++ tl 40 ++ txL f ta ++ tl 39 ++ tl 41 ++ tl 40 ++ txL f tb ++ tl 39 := by rw [txL_s, if_neg (by omega), if_neg (by omega), if_neg (by omega), if_neg (by omega), if_neg (by omega), if_neg (by omega), if_neg (by omega), if_neg (by omega), if_neg (by omega), if_pos hc]
      have hha : hasA kd := ⟨by omega, by omega⟩
      obtain ⟨a9, ea, ta9⟩ := hca hha
      subst ea
      have hhb : hasB kd := ⟨by omega, by omega, by omega⟩
      obtain ⟨b9, eb, tb9⟩ := hcb hhb
      subst eb
      refine J_aload_n dX8_text_114 rfl rfl ?_
      refine J_getf dX8_text_115 fl_X8_7 ((hfr20 v (by omega)).trans ((hfr0 v hvn).trans hA)) rfl ?_
      refine J_if_ne (tgt := 144) dX8_text_118 rfl (fun h118 => ?_) (fun h118 => ?_)
      · refine J_aload_n dX8_text_144 rfl rfl ?_
        refine J_getf dX8_text_145 fl_X8_7 ((hfr20 v (by omega)).trans ((hfr0 v hvn).trans hA)) rfl ?_
        refine J_iconst (v := 1) dX8_text_148 (by decide) ?_
        refine J_icmp_ne (tgt := 155) dX8_text_149 rfl (fun h149 => ?_) (fun h149 => ?_)
        · refine J_aload_n dX8_text_155 rfl rfl ?_
          refine J_getf dX8_text_156 fl_X8_7 ((hfr20 v (by omega)).trans ((hfr0 v hvn).trans hA)) rfl ?_
          refine J_bipush (v := 8) dX8_text_159 (by decide) ?_
          refine J_icmp_ge (tgt := 201) dX8_text_161 rfl (fun h161 => ?_) (fun h161 => ?_)
          · refine J_aload_n dX8_text_201 rfl rfl ?_
            refine J_getf dX8_text_202 fl_X8_7 ((hfr20 v (by omega)).trans ((hfr0 v hvn).trans hA)) rfl ?_
            refine J_bipush (v := 8) dX8_text_205 (by decide) ?_
            refine J_icmp_ne (tgt := 241) dX8_text_207 rfl (fun h207 => ?_) (fun h207 => ?_)
            · refine J_aload_n dX8_text_241 rfl rfl ?_
              refine J_getf dX8_text_242 fl_X8_7 ((hfr20 v (by omega)).trans ((hfr0 v hvn).trans hA)) rfl ?_
              refine J_bipush (v := 13) dX8_text_245 (by decide) ?_
              refine J_icmp_ge (tgt := 313) dX8_text_247 rfl (fun h247 => ?_) (fun h247 => ?_)
              · refine J_aload_n dX8_text_313 rfl rfl ?_
                refine J_getf dX8_text_314 fl_X8_7 ((hfr20 v (by omega)).trans ((hfr0 v hvn).trans hA)) rfl ?_
                refine J_bipush (v := 15) dX8_text_317 (by decide) ?_
                refine J_icmp_ge (tgt := 375) dX8_text_319 rfl (fun h319 => ?_) (fun h319 => ?_)
                · refine J_aload_n dX8_text_375 rfl rfl ?_
                  refine J_getf dX8_text_376 fl_X8_7 ((hfr20 v (by omega)).trans ((hfr0 v hvn).trans hA)) rfl ?_
                  refine J_bipush (v := 25) dX8_text_379 (by decide) ?_
                  refine J_icmp_ge (tgt := 427) dX8_text_381 rfl (fun h381 => ?_) (fun h381 => ?_)
                  · refine J_aload_n dX8_text_427 rfl rfl ?_
                    refine J_getf dX8_text_428 fl_X8_7 ((hfr20 v (by omega)).trans ((hfr0 v hvn).trans hA)) rfl ?_
                    refine J_bipush (v := 25) dX8_text_431 (by decide) ?_
                    refine J_icmp_ne (tgt := 439) dX8_text_433 rfl (fun h433 => ?_) (fun h433 => ?_)
                    · refine J_aload_n dX8_text_439 rfl rfl ?_
                      refine J_getf dX8_text_440 fl_X8_7 ((hfr20 v (by omega)).trans ((hfr0 v hvn).trans hA)) rfl ?_
                      refine J_bipush (v := 26) dX8_text_443 (by decide) ?_
                      refine J_icmp_ne (tgt := 481) dX8_text_445 rfl (fun h445 => ?_) (fun h445 => ?_)
                      · refine J_new (fs := [.null, .int 0, .int 0, .int 0]) dX8_text_481 k_9 cl_X8_79 ins_java_lang_StringBuilder in_java_lang_StringBuilder (fun q hq => by rcases (show q = 0 ∨ q = 1 ∨ q = 2 ∨ q = 3 by omega) with rfl | rfl | rfl | rfl <;> rfl) (fun v hv q h => by subst h; simp at hv) (by omega) (by omega) ?_
                        refine J_up (fun A21 g21 o21 => ?_)
                        refine J_dup dX8_text_484 rfl ?_
                        refine J_callI (As := []) dX8_text_485 (Or.inl ml_X8_81) cal_J4_init_da8c8 rfl rfl rfl im_J4_init_da8c8 rfl (Nat.le_of_ble_eq_true rfl) ⟨by omega, by show 8 + (1 + 11) + _ ≤ _; omega⟩ ⟨by omega, by omega⟩ (c_J4_init_da8c8 hst g21) (fun v9 A22 n22 _ hQ => ?_)
                        obtain ⟨e9, hn22, hW22, hg22⟩ := hQ
                        cases e9
                        have hv22 : n0 < n0 + 1 ∧ n0 + 1 < n22 := by omega
                        have hfr22 : ∀ z, z < n0 → A22 z = A0 z := fun z hz => (hg22 z (by omega) (by omega)).trans (o21 z (by omega))
                        refine J_ldcS 40 dX8_text_488 rfl ?_
                        refine J_callV (As := [_]) dX8_text_490 ml_X8_82 cal_J4_append_15ec4 im_J4_append_15ec4 se_J4_append_15ec4 hW22.1 rfl rfl rfl (Nat.le_of_ble_eq_true rfl) ⟨by omega, by show 8 + (2 + 11) + _ ≤ _; omega⟩ ⟨by omega, by omega⟩ (c_J4_append_15ec4 hst hW22 (strT (k := 40) (by decide)) (by have h9 := hl; rw [etx] at h9; simp only [List.length_append, List.length_nil] at h9 ⊢; omega)) (fun _ _ _ _ hE => absurd hE.1 (fun z => nomatch z)) (fun v9 A23 n23 _ hQ => ?_)
                        obtain ⟨e9, hn23, hN23, v23, m23, hW23, hu23, hg23⟩ := hQ
                        cases e9
                        have hv23 : n0 < v23 ∧ v23 < n23 := by omega
                        have hfr23 : ∀ z, z < n0 → A23 z = A0 z := fun z hz => (hg23 z (by omega) (by omega) (by omega)).trans (hfr22 z hz)
                        refine J_aload_n dX8_text_493 rfl rfl ?_
                        refine J_getf dX8_text_494 fl_X8_26 ((hfr23 v (by omega)).trans ((hfr0 v hvn).trans hA)) rfl ?_
                        have tr23 := ta9.up (A' := A23) _ _ _ (fun z c hz => (hfr23 z (by have := lt0 _ _ hz; omega)).trans (hfr0 z (lt0 _ _ hz)))
                        obtain ⟨fa23, ca23⟩ := trA.cell _ _ _ tr23
                        refine J_callV (As := []) dX8_text_497 ml_X8_101 cal_X8_text im_X8_text se_X8_text ca23 rfl rfl rfl (Nat.le_of_ble_eq_true rfl) ⟨by omega, by show 8 + (4 + 11) + _ ≤ _; omega⟩ ⟨by omega, by omega⟩ (IH A23 n23 a9 ta tr23 (hk4 hha) (by have h9 := hl; rw [etx] at h9; simp only [List.length_append, List.length_nil] at h9; omega)) (fun _ _ _ _ hE => by obtain ⟨_, z, _⟩ := hE; exact nomatch z) (fun v9 A24 n24 hn24 hQ => ?_)
                        obtain ⟨w24, e9, hs24, hg24⟩ := hQ
                        cases e9
                        have hW24 := hW23.up (hg24 _ (by omega)) (hg24 _ hv23.2)
                        have hv24 : n0 < _ ∧ _ < n24 := ⟨hv23.1, Nat.lt_of_lt_of_le hv23.2 hn24⟩
                        have hfr24 : ∀ z, z < n0 → A24 z = A0 z := fun z hz => (hg24 z (by omega)).trans (hfr23 z hz)
                        refine J_callV (As := [_]) dX8_text_500 ml_X8_82 cal_J4_append_15ec4 im_J4_append_15ec4 se_J4_append_15ec4 hW24.1 rfl rfl rfl (Nat.le_of_ble_eq_true rfl) ⟨by omega, by show 8 + (2 + 11) + _ ≤ _; omega⟩ ⟨by omega, by omega⟩ (c_J4_append_15ec4 hst hW24 hs24 (by have h9 := hl; rw [etx] at h9; simp only [List.length_append, List.length_nil] at h9 ⊢; omega)) (fun _ _ _ _ hE => absurd hE.1 (fun z => nomatch z)) (fun v9 A25 n25 _ hQ => ?_)
                        obtain ⟨e9, hn25, hN25, v25, m25, hW25, hu25, hg25⟩ := hQ
                        cases e9
                        have hv25 : n0 < v25 ∧ v25 < n25 := by omega
                        have hfr25 : ∀ z, z < n0 → A25 z = A0 z := fun z hz => (hg25 z (by omega) (by omega) (by omega)).trans (hfr24 z hz)
                        refine J_ldcS 39 dX8_text_503 rfl ?_
                        refine J_callV (As := [_]) dX8_text_505 ml_X8_82 cal_J4_append_15ec4 im_J4_append_15ec4 se_J4_append_15ec4 hW25.1 rfl rfl rfl (Nat.le_of_ble_eq_true rfl) ⟨by omega, by show 8 + (2 + 11) + _ ≤ _; omega⟩ ⟨by omega, by omega⟩ (c_J4_append_15ec4 hst hW25 (strT (k := 39) (by decide)) (by have h9 := hl; rw [etx] at h9; simp only [List.length_append, List.length_nil] at h9 ⊢; omega)) (fun _ _ _ _ hE => absurd hE.1 (fun z => nomatch z)) (fun v9 A26 n26 _ hQ => ?_)
                        obtain ⟨e9, hn26, hN26, v26, m26, hW26, hu26, hg26⟩ := hQ
                        cases e9
                        have hv26 : n0 < v26 ∧ v26 < n26 := by omega
                        have hfr26 : ∀ z, z < n0 → A26 z = A0 z := fun z hz => (hg26 z (by omega) (by omega) (by omega)).trans (hfr25 z hz)
                        refine J_aload_n dX8_text_508 rfl rfl ?_
                        refine J_getf dX8_text_509 fl_X8_7 ((hfr26 v (by omega)).trans ((hfr0 v hvn).trans hA)) rfl ?_
                        refine J_bipush (v := 27) dX8_text_512 (by decide) ?_
                        refine J_icmp_ne (tgt := 522) dX8_text_514 rfl (fun h514 => ?_) (fun h514 => ?_)
                        · exfalso; simp only [i_lt, i_le, i_eq, i_0, i_1, i_8, ek, eu, show (13 : Int32).toInt = 13 from rfl, show (15 : Int32).toInt = 15 from rfl, show (25 : Int32).toInt = 25 from rfl, show (26 : Int32).toInt = 26 from rfl, show (27 : Int32).toInt = 27 from rfl] at h514; omega
                        · refine J_ldcS 41 dX8_text_517 rfl ?_
                          refine J_goto (tgt := 524) dX8_text_519 rfl ?_
                          refine J_callV (As := [_]) dX8_text_524 ml_X8_82 cal_J4_append_15ec4 im_J4_append_15ec4 se_J4_append_15ec4 hW26.1 rfl rfl rfl (Nat.le_of_ble_eq_true rfl) ⟨by omega, by show 8 + (2 + 11) + _ ≤ _; omega⟩ ⟨by omega, by omega⟩ (c_J4_append_15ec4 hst hW26 (strT (k := 41) (by decide)) (by have h9 := hl; rw [etx] at h9; simp only [List.length_append, List.length_nil] at h9 ⊢; omega)) (fun _ _ _ _ hE => absurd hE.1 (fun z => nomatch z)) (fun v9 A27 n27 _ hQ => ?_)
                          obtain ⟨e9, hn27, hN27, v27, m27, hW27, hu27, hg27⟩ := hQ
                          cases e9
                          have hv27 : n0 < v27 ∧ v27 < n27 := by omega
                          have hfr27 : ∀ z, z < n0 → A27 z = A0 z := fun z hz => (hg27 z (by omega) (by omega) (by omega)).trans (hfr26 z hz)
                          refine J_ldcS 40 dX8_text_527 rfl ?_
                          refine J_callV (As := [_]) dX8_text_529 ml_X8_82 cal_J4_append_15ec4 im_J4_append_15ec4 se_J4_append_15ec4 hW27.1 rfl rfl rfl (Nat.le_of_ble_eq_true rfl) ⟨by omega, by show 8 + (2 + 11) + _ ≤ _; omega⟩ ⟨by omega, by omega⟩ (c_J4_append_15ec4 hst hW27 (strT (k := 40) (by decide)) (by have h9 := hl; rw [etx] at h9; simp only [List.length_append, List.length_nil] at h9 ⊢; omega)) (fun _ _ _ _ hE => absurd hE.1 (fun z => nomatch z)) (fun v9 A28 n28 _ hQ => ?_)
                          obtain ⟨e9, hn28, hN28, v28, m28, hW28, hu28, hg28⟩ := hQ
                          cases e9
                          have hv28 : n0 < v28 ∧ v28 < n28 := by omega
                          have hfr28 : ∀ z, z < n0 → A28 z = A0 z := fun z hz => (hg28 z (by omega) (by omega) (by omega)).trans (hfr27 z hz)
                          refine J_aload_n dX8_text_532 rfl rfl ?_
                          refine J_getf dX8_text_533 fl_X8_33 ((hfr28 v (by omega)).trans ((hfr0 v hvn).trans hA)) rfl ?_
                          have tr28 := tb9.up (A' := A28) _ _ _ (fun z c hz => (hfr28 z (by have := lt0 _ _ hz; omega)).trans (hfr0 z (lt0 _ _ hz)))
                          obtain ⟨fa28, ca28⟩ := trA.cell _ _ _ tr28
                          refine J_callV (As := []) dX8_text_536 ml_X8_101 cal_X8_text im_X8_text se_X8_text ca28 rfl rfl rfl (Nat.le_of_ble_eq_true rfl) ⟨by omega, by show 8 + (4 + 11) + _ ≤ _; omega⟩ ⟨by omega, by omega⟩ (IH A28 n28 b9 tb tr28 (hk5 hhb) (by have h9 := hl; rw [etx] at h9; simp only [List.length_append, List.length_nil] at h9; omega)) (fun _ _ _ _ hE => by obtain ⟨_, z, _⟩ := hE; exact nomatch z) (fun v9 A29 n29 hn29 hQ => ?_)
                          obtain ⟨w29, e9, hs29, hg29⟩ := hQ
                          cases e9
                          have hW29 := hW28.up (hg29 _ (by omega)) (hg29 _ hv28.2)
                          have hv29 : n0 < _ ∧ _ < n29 := ⟨hv28.1, Nat.lt_of_lt_of_le hv28.2 hn29⟩
                          have hfr29 : ∀ z, z < n0 → A29 z = A0 z := fun z hz => (hg29 z (by omega)).trans (hfr28 z hz)
                          refine J_callV (As := [_]) dX8_text_539 ml_X8_82 cal_J4_append_15ec4 im_J4_append_15ec4 se_J4_append_15ec4 hW29.1 rfl rfl rfl (Nat.le_of_ble_eq_true rfl) ⟨by omega, by show 8 + (2 + 11) + _ ≤ _; omega⟩ ⟨by omega, by omega⟩ (c_J4_append_15ec4 hst hW29 hs29 (by have h9 := hl; rw [etx] at h9; simp only [List.length_append, List.length_nil] at h9 ⊢; omega)) (fun _ _ _ _ hE => absurd hE.1 (fun z => nomatch z)) (fun v9 A30 n30 _ hQ => ?_)
                          obtain ⟨e9, hn30, hN30, v30, m30, hW30, hu30, hg30⟩ := hQ
                          cases e9
                          have hv30 : n0 < v30 ∧ v30 < n30 := by omega
                          have hfr30 : ∀ z, z < n0 → A30 z = A0 z := fun z hz => (hg30 z (by omega) (by omega) (by omega)).trans (hfr29 z hz)
                          refine J_ldcS 39 dX8_text_542 rfl ?_
                          refine J_callV (As := [_]) dX8_text_544 ml_X8_82 cal_J4_append_15ec4 im_J4_append_15ec4 se_J4_append_15ec4 hW30.1 rfl rfl rfl (Nat.le_of_ble_eq_true rfl) ⟨by omega, by show 8 + (2 + 11) + _ ≤ _; omega⟩ ⟨by omega, by omega⟩ (c_J4_append_15ec4 hst hW30 (strT (k := 39) (by decide)) (by have h9 := hl; rw [etx] at h9; simp only [List.length_append, List.length_nil] at h9 ⊢; omega)) (fun _ _ _ _ hE => absurd hE.1 (fun z => nomatch z)) (fun v9 A31 n31 _ hQ => ?_)
                          obtain ⟨e9, hn31, hN31, v31, m31, hW31, hu31, hg31⟩ := hQ
                          cases e9
                          have hv31 : n0 < v31 ∧ v31 < n31 := by omega
                          have hfr31 : ∀ z, z < n0 → A31 z = A0 z := fun z hz => (hg31 z (by omega) (by omega) (by omega)).trans (hfr30 z hz)
                          refine J_callV (As := []) dX8_text_547 ml_X8_89 cal_J4_toString_0e30d im_J4_toString_0e30d se_J4_toString_0e30d hW31.1 rfl rfl rfl (Nat.le_of_ble_eq_true rfl) ⟨by omega, by show 8 + (1 + 11) + _ ≤ _; omega⟩ ⟨by omega, by omega⟩ (c_J4_toString_0e30d hst hW31 (by have h9 := hl; rw [etx] at h9; simp only [List.length_append, List.length_nil] at h9 ⊢; omega)) (fun _ _ _ _ hE => absurd hE.1 (fun z => nomatch z)) (fun v9 A32 n32 _ hQ => ?_)
                          obtain ⟨e9, hn32, hT32, ⟨g9, hB9, hh9, hf9⟩, hg32⟩ := hQ
                          cases e9
                          refine J_areturn (C := _) dX8_text_550 rfl (by omega) (by omega) ?_
                          refine ⟨_, rfl, ?_, fun z hz => (hg32 z (by omega)).trans ((hfr31 z (by omega)).trans (hfr0 z hz))⟩
                          rw [etx]
                          exact Or.inr ⟨_, g9, hT32, hB9, hh9, hf9⟩
                      · exfalso; simp only [i_lt, i_le, i_eq, i_0, i_1, i_8, ek, eu, show (13 : Int32).toInt = 13 from rfl, show (15 : Int32).toInt = 15 from rfl, show (25 : Int32).toInt = 25 from rfl, show (26 : Int32).toInt = 26 from rfl, show (27 : Int32).toInt = 27 from rfl] at h445; omega
                    · exfalso; simp only [i_lt, i_le, i_eq, i_0, i_1, i_8, ek, eu, show (13 : Int32).toInt = 13 from rfl, show (15 : Int32).toInt = 15 from rfl, show (25 : Int32).toInt = 25 from rfl, show (26 : Int32).toInt = 26 from rfl, show (27 : Int32).toInt = 27 from rfl] at h433; omega
                  · exfalso; simp only [i_lt, i_le, i_eq, i_0, i_1, i_8, ek, eu, show (13 : Int32).toInt = 13 from rfl, show (15 : Int32).toInt = 15 from rfl, show (25 : Int32).toInt = 25 from rfl, show (26 : Int32).toInt = 26 from rfl, show (27 : Int32).toInt = 27 from rfl] at h381; omega
                · exfalso; simp only [i_lt, i_le, i_eq, i_0, i_1, i_8, ek, eu, show (13 : Int32).toInt = 13 from rfl, show (15 : Int32).toInt = 15 from rfl, show (25 : Int32).toInt = 25 from rfl, show (26 : Int32).toInt = 26 from rfl, show (27 : Int32).toInt = 27 from rfl] at h319; omega
              · exfalso; simp only [i_lt, i_le, i_eq, i_0, i_1, i_8, ek, eu, show (13 : Int32).toInt = 13 from rfl, show (15 : Int32).toInt = 15 from rfl, show (25 : Int32).toInt = 25 from rfl, show (26 : Int32).toInt = 26 from rfl, show (27 : Int32).toInt = 27 from rfl] at h247; omega
            · exfalso; simp only [i_lt, i_le, i_eq, i_0, i_1, i_8, ek, eu, show (13 : Int32).toInt = 13 from rfl, show (15 : Int32).toInt = 15 from rfl, show (25 : Int32).toInt = 25 from rfl, show (26 : Int32).toInt = 26 from rfl, show (27 : Int32).toInt = 27 from rfl] at h207; omega
          · exfalso; simp only [i_lt, i_le, i_eq, i_0, i_1, i_8, ek, eu, show (13 : Int32).toInt = 13 from rfl, show (15 : Int32).toInt = 15 from rfl, show (25 : Int32).toInt = 25 from rfl, show (26 : Int32).toInt = 26 from rfl, show (27 : Int32).toInt = 27 from rfl] at h161; omega
        · exfalso; simp only [i_lt, i_le, i_eq, i_0, i_1, i_8, ek, eu, show (13 : Int32).toInt = 13 from rfl, show (15 : Int32).toInt = 15 from rfl, show (25 : Int32).toInt = 25 from rfl, show (26 : Int32).toInt = 26 from rfl, show (27 : Int32).toInt = 27 from rfl] at h149; omega
      · exfalso; simp only [i_lt, i_le, i_eq, i_0, i_1, i_8, ek, eu, show (13 : Int32).toInt = 13 from rfl, show (15 : Int32).toInt = 15 from rfl, show (25 : Int32).toInt = 25 from rfl, show (26 : Int32).toInt = 26 from rfl, show (27 : Int32).toInt = 27 from rfl] at h118; omega
    · have etx : txL (f + 1) ((kd, nu), (ta, tb)) = [] ++ tl 40 ++ txL f ta ++ tl 39 ++ tl 42 ++ tl 40 ++ txL f tb ++ tl 39 := by rw [txL_s, if_neg (by omega), if_neg (by omega), if_neg (by omega), if_neg (by omega), if_neg (by omega), if_neg (by omega), if_neg (by omega), if_neg (by omega), if_neg (by omega), if_neg (by omega)]
      have hha : hasA kd := ⟨by omega, by omega⟩
      obtain ⟨a9, ea, ta9⟩ := hca hha
      subst ea
      have hhb : hasB kd := ⟨by omega, by omega, by omega⟩
      obtain ⟨b9, eb, tb9⟩ := hcb hhb
      subst eb
      refine J_aload_n dX8_text_114 rfl rfl ?_
      refine J_getf dX8_text_115 fl_X8_7 ((hfr20 v (by omega)).trans ((hfr0 v hvn).trans hA)) rfl ?_
      refine J_if_ne (tgt := 144) dX8_text_118 rfl (fun h118 => ?_) (fun h118 => ?_)
      · refine J_aload_n dX8_text_144 rfl rfl ?_
        refine J_getf dX8_text_145 fl_X8_7 ((hfr20 v (by omega)).trans ((hfr0 v hvn).trans hA)) rfl ?_
        refine J_iconst (v := 1) dX8_text_148 (by decide) ?_
        refine J_icmp_ne (tgt := 155) dX8_text_149 rfl (fun h149 => ?_) (fun h149 => ?_)
        · refine J_aload_n dX8_text_155 rfl rfl ?_
          refine J_getf dX8_text_156 fl_X8_7 ((hfr20 v (by omega)).trans ((hfr0 v hvn).trans hA)) rfl ?_
          refine J_bipush (v := 8) dX8_text_159 (by decide) ?_
          refine J_icmp_ge (tgt := 201) dX8_text_161 rfl (fun h161 => ?_) (fun h161 => ?_)
          · refine J_aload_n dX8_text_201 rfl rfl ?_
            refine J_getf dX8_text_202 fl_X8_7 ((hfr20 v (by omega)).trans ((hfr0 v hvn).trans hA)) rfl ?_
            refine J_bipush (v := 8) dX8_text_205 (by decide) ?_
            refine J_icmp_ne (tgt := 241) dX8_text_207 rfl (fun h207 => ?_) (fun h207 => ?_)
            · refine J_aload_n dX8_text_241 rfl rfl ?_
              refine J_getf dX8_text_242 fl_X8_7 ((hfr20 v (by omega)).trans ((hfr0 v hvn).trans hA)) rfl ?_
              refine J_bipush (v := 13) dX8_text_245 (by decide) ?_
              refine J_icmp_ge (tgt := 313) dX8_text_247 rfl (fun h247 => ?_) (fun h247 => ?_)
              · refine J_aload_n dX8_text_313 rfl rfl ?_
                refine J_getf dX8_text_314 fl_X8_7 ((hfr20 v (by omega)).trans ((hfr0 v hvn).trans hA)) rfl ?_
                refine J_bipush (v := 15) dX8_text_317 (by decide) ?_
                refine J_icmp_ge (tgt := 375) dX8_text_319 rfl (fun h319 => ?_) (fun h319 => ?_)
                · refine J_aload_n dX8_text_375 rfl rfl ?_
                  refine J_getf dX8_text_376 fl_X8_7 ((hfr20 v (by omega)).trans ((hfr0 v hvn).trans hA)) rfl ?_
                  refine J_bipush (v := 25) dX8_text_379 (by decide) ?_
                  refine J_icmp_ge (tgt := 427) dX8_text_381 rfl (fun h381 => ?_) (fun h381 => ?_)
                  · refine J_aload_n dX8_text_427 rfl rfl ?_
                    refine J_getf dX8_text_428 fl_X8_7 ((hfr20 v (by omega)).trans ((hfr0 v hvn).trans hA)) rfl ?_
                    refine J_bipush (v := 25) dX8_text_431 (by decide) ?_
                    refine J_icmp_ne (tgt := 439) dX8_text_433 rfl (fun h433 => ?_) (fun h433 => ?_)
                    · refine J_aload_n dX8_text_439 rfl rfl ?_
                      refine J_getf dX8_text_440 fl_X8_7 ((hfr20 v (by omega)).trans ((hfr0 v hvn).trans hA)) rfl ?_
                      refine J_bipush (v := 26) dX8_text_443 (by decide) ?_
                      refine J_icmp_ne (tgt := 481) dX8_text_445 rfl (fun h445 => ?_) (fun h445 => ?_)
                      · refine J_new (fs := [.null, .int 0, .int 0, .int 0]) dX8_text_481 k_9 cl_X8_79 ins_java_lang_StringBuilder in_java_lang_StringBuilder (fun q hq => by rcases (show q = 0 ∨ q = 1 ∨ q = 2 ∨ q = 3 by omega) with rfl | rfl | rfl | rfl <;> rfl) (fun v hv q h => by subst h; simp at hv) (by omega) (by omega) ?_
                        refine J_up (fun A21 g21 o21 => ?_)
                        refine J_dup dX8_text_484 rfl ?_
                        refine J_callI (As := []) dX8_text_485 (Or.inl ml_X8_81) cal_J4_init_da8c8 rfl rfl rfl im_J4_init_da8c8 rfl (Nat.le_of_ble_eq_true rfl) ⟨by omega, by show 8 + (1 + 11) + _ ≤ _; omega⟩ ⟨by omega, by omega⟩ (c_J4_init_da8c8 hst g21) (fun v9 A22 n22 _ hQ => ?_)
                        obtain ⟨e9, hn22, hW22, hg22⟩ := hQ
                        cases e9
                        have hv22 : n0 < n0 + 1 ∧ n0 + 1 < n22 := by omega
                        have hfr22 : ∀ z, z < n0 → A22 z = A0 z := fun z hz => (hg22 z (by omega) (by omega)).trans (o21 z (by omega))
                        refine J_ldcS 40 dX8_text_488 rfl ?_
                        refine J_callV (As := [_]) dX8_text_490 ml_X8_82 cal_J4_append_15ec4 im_J4_append_15ec4 se_J4_append_15ec4 hW22.1 rfl rfl rfl (Nat.le_of_ble_eq_true rfl) ⟨by omega, by show 8 + (2 + 11) + _ ≤ _; omega⟩ ⟨by omega, by omega⟩ (c_J4_append_15ec4 hst hW22 (strT (k := 40) (by decide)) (by have h9 := hl; rw [etx] at h9; simp only [List.length_append, List.length_nil] at h9 ⊢; omega)) (fun _ _ _ _ hE => absurd hE.1 (fun z => nomatch z)) (fun v9 A23 n23 _ hQ => ?_)
                        obtain ⟨e9, hn23, hN23, v23, m23, hW23, hu23, hg23⟩ := hQ
                        cases e9
                        have hv23 : n0 < v23 ∧ v23 < n23 := by omega
                        have hfr23 : ∀ z, z < n0 → A23 z = A0 z := fun z hz => (hg23 z (by omega) (by omega) (by omega)).trans (hfr22 z hz)
                        refine J_aload_n dX8_text_493 rfl rfl ?_
                        refine J_getf dX8_text_494 fl_X8_26 ((hfr23 v (by omega)).trans ((hfr0 v hvn).trans hA)) rfl ?_
                        have tr23 := ta9.up (A' := A23) _ _ _ (fun z c hz => (hfr23 z (by have := lt0 _ _ hz; omega)).trans (hfr0 z (lt0 _ _ hz)))
                        obtain ⟨fa23, ca23⟩ := trA.cell _ _ _ tr23
                        refine J_callV (As := []) dX8_text_497 ml_X8_101 cal_X8_text im_X8_text se_X8_text ca23 rfl rfl rfl (Nat.le_of_ble_eq_true rfl) ⟨by omega, by show 8 + (4 + 11) + _ ≤ _; omega⟩ ⟨by omega, by omega⟩ (IH A23 n23 a9 ta tr23 (hk4 hha) (by have h9 := hl; rw [etx] at h9; simp only [List.length_append, List.length_nil] at h9; omega)) (fun _ _ _ _ hE => by obtain ⟨_, z, _⟩ := hE; exact nomatch z) (fun v9 A24 n24 hn24 hQ => ?_)
                        obtain ⟨w24, e9, hs24, hg24⟩ := hQ
                        cases e9
                        have hW24 := hW23.up (hg24 _ (by omega)) (hg24 _ hv23.2)
                        have hv24 : n0 < _ ∧ _ < n24 := ⟨hv23.1, Nat.lt_of_lt_of_le hv23.2 hn24⟩
                        have hfr24 : ∀ z, z < n0 → A24 z = A0 z := fun z hz => (hg24 z (by omega)).trans (hfr23 z hz)
                        refine J_callV (As := [_]) dX8_text_500 ml_X8_82 cal_J4_append_15ec4 im_J4_append_15ec4 se_J4_append_15ec4 hW24.1 rfl rfl rfl (Nat.le_of_ble_eq_true rfl) ⟨by omega, by show 8 + (2 + 11) + _ ≤ _; omega⟩ ⟨by omega, by omega⟩ (c_J4_append_15ec4 hst hW24 hs24 (by have h9 := hl; rw [etx] at h9; simp only [List.length_append, List.length_nil] at h9 ⊢; omega)) (fun _ _ _ _ hE => absurd hE.1 (fun z => nomatch z)) (fun v9 A25 n25 _ hQ => ?_)
                        obtain ⟨e9, hn25, hN25, v25, m25, hW25, hu25, hg25⟩ := hQ
                        cases e9
                        have hv25 : n0 < v25 ∧ v25 < n25 := by omega
                        have hfr25 : ∀ z, z < n0 → A25 z = A0 z := fun z hz => (hg25 z (by omega) (by omega) (by omega)).trans (hfr24 z hz)
                        refine J_ldcS 39 dX8_text_503 rfl ?_
                        refine J_callV (As := [_]) dX8_text_505 ml_X8_82 cal_J4_append_15ec4 im_J4_append_15ec4 se_J4_append_15ec4 hW25.1 rfl rfl rfl (Nat.le_of_ble_eq_true rfl) ⟨by omega, by show 8 + (2 + 11) + _ ≤ _; omega⟩ ⟨by omega, by omega⟩ (c_J4_append_15ec4 hst hW25 (strT (k := 39) (by decide)) (by have h9 := hl; rw [etx] at h9; simp only [List.length_append, List.length_nil] at h9 ⊢; omega)) (fun _ _ _ _ hE => absurd hE.1 (fun z => nomatch z)) (fun v9 A26 n26 _ hQ => ?_)
                        obtain ⟨e9, hn26, hN26, v26, m26, hW26, hu26, hg26⟩ := hQ
                        cases e9
                        have hv26 : n0 < v26 ∧ v26 < n26 := by omega
                        have hfr26 : ∀ z, z < n0 → A26 z = A0 z := fun z hz => (hg26 z (by omega) (by omega) (by omega)).trans (hfr25 z hz)
                        refine J_aload_n dX8_text_508 rfl rfl ?_
                        refine J_getf dX8_text_509 fl_X8_7 ((hfr26 v (by omega)).trans ((hfr0 v hvn).trans hA)) rfl ?_
                        refine J_bipush (v := 27) dX8_text_512 (by decide) ?_
                        refine J_icmp_ne (tgt := 522) dX8_text_514 rfl (fun h514 => ?_) (fun h514 => ?_)
                        · refine J_ldcS 42 dX8_text_522 rfl ?_
                          refine J_callV (As := [_]) dX8_text_524 ml_X8_82 cal_J4_append_15ec4 im_J4_append_15ec4 se_J4_append_15ec4 hW26.1 rfl rfl rfl (Nat.le_of_ble_eq_true rfl) ⟨by omega, by show 8 + (2 + 11) + _ ≤ _; omega⟩ ⟨by omega, by omega⟩ (c_J4_append_15ec4 hst hW26 (strT (k := 42) (by decide)) (by have h9 := hl; rw [etx] at h9; simp only [List.length_append, List.length_nil] at h9 ⊢; omega)) (fun _ _ _ _ hE => absurd hE.1 (fun z => nomatch z)) (fun v9 A27 n27 _ hQ => ?_)
                          obtain ⟨e9, hn27, hN27, v27, m27, hW27, hu27, hg27⟩ := hQ
                          cases e9
                          have hv27 : n0 < v27 ∧ v27 < n27 := by omega
                          have hfr27 : ∀ z, z < n0 → A27 z = A0 z := fun z hz => (hg27 z (by omega) (by omega) (by omega)).trans (hfr26 z hz)
                          refine J_ldcS 40 dX8_text_527 rfl ?_
                          refine J_callV (As := [_]) dX8_text_529 ml_X8_82 cal_J4_append_15ec4 im_J4_append_15ec4 se_J4_append_15ec4 hW27.1 rfl rfl rfl (Nat.le_of_ble_eq_true rfl) ⟨by omega, by show 8 + (2 + 11) + _ ≤ _; omega⟩ ⟨by omega, by omega⟩ (c_J4_append_15ec4 hst hW27 (strT (k := 40) (by decide)) (by have h9 := hl; rw [etx] at h9; simp only [List.length_append, List.length_nil] at h9 ⊢; omega)) (fun _ _ _ _ hE => absurd hE.1 (fun z => nomatch z)) (fun v9 A28 n28 _ hQ => ?_)
                          obtain ⟨e9, hn28, hN28, v28, m28, hW28, hu28, hg28⟩ := hQ
                          cases e9
                          have hv28 : n0 < v28 ∧ v28 < n28 := by omega
                          have hfr28 : ∀ z, z < n0 → A28 z = A0 z := fun z hz => (hg28 z (by omega) (by omega) (by omega)).trans (hfr27 z hz)
                          refine J_aload_n dX8_text_532 rfl rfl ?_
                          refine J_getf dX8_text_533 fl_X8_33 ((hfr28 v (by omega)).trans ((hfr0 v hvn).trans hA)) rfl ?_
                          have tr28 := tb9.up (A' := A28) _ _ _ (fun z c hz => (hfr28 z (by have := lt0 _ _ hz; omega)).trans (hfr0 z (lt0 _ _ hz)))
                          obtain ⟨fa28, ca28⟩ := trA.cell _ _ _ tr28
                          refine J_callV (As := []) dX8_text_536 ml_X8_101 cal_X8_text im_X8_text se_X8_text ca28 rfl rfl rfl (Nat.le_of_ble_eq_true rfl) ⟨by omega, by show 8 + (4 + 11) + _ ≤ _; omega⟩ ⟨by omega, by omega⟩ (IH A28 n28 b9 tb tr28 (hk5 hhb) (by have h9 := hl; rw [etx] at h9; simp only [List.length_append, List.length_nil] at h9; omega)) (fun _ _ _ _ hE => by obtain ⟨_, z, _⟩ := hE; exact nomatch z) (fun v9 A29 n29 hn29 hQ => ?_)
                          obtain ⟨w29, e9, hs29, hg29⟩ := hQ
                          cases e9
                          have hW29 := hW28.up (hg29 _ (by omega)) (hg29 _ hv28.2)
                          have hv29 : n0 < _ ∧ _ < n29 := ⟨hv28.1, Nat.lt_of_lt_of_le hv28.2 hn29⟩
                          have hfr29 : ∀ z, z < n0 → A29 z = A0 z := fun z hz => (hg29 z (by omega)).trans (hfr28 z hz)
                          refine J_callV (As := [_]) dX8_text_539 ml_X8_82 cal_J4_append_15ec4 im_J4_append_15ec4 se_J4_append_15ec4 hW29.1 rfl rfl rfl (Nat.le_of_ble_eq_true rfl) ⟨by omega, by show 8 + (2 + 11) + _ ≤ _; omega⟩ ⟨by omega, by omega⟩ (c_J4_append_15ec4 hst hW29 hs29 (by have h9 := hl; rw [etx] at h9; simp only [List.length_append, List.length_nil] at h9 ⊢; omega)) (fun _ _ _ _ hE => absurd hE.1 (fun z => nomatch z)) (fun v9 A30 n30 _ hQ => ?_)
                          obtain ⟨e9, hn30, hN30, v30, m30, hW30, hu30, hg30⟩ := hQ
                          cases e9
                          have hv30 : n0 < v30 ∧ v30 < n30 := by omega
                          have hfr30 : ∀ z, z < n0 → A30 z = A0 z := fun z hz => (hg30 z (by omega) (by omega) (by omega)).trans (hfr29 z hz)
                          refine J_ldcS 39 dX8_text_542 rfl ?_
                          refine J_callV (As := [_]) dX8_text_544 ml_X8_82 cal_J4_append_15ec4 im_J4_append_15ec4 se_J4_append_15ec4 hW30.1 rfl rfl rfl (Nat.le_of_ble_eq_true rfl) ⟨by omega, by show 8 + (2 + 11) + _ ≤ _; omega⟩ ⟨by omega, by omega⟩ (c_J4_append_15ec4 hst hW30 (strT (k := 39) (by decide)) (by have h9 := hl; rw [etx] at h9; simp only [List.length_append, List.length_nil] at h9 ⊢; omega)) (fun _ _ _ _ hE => absurd hE.1 (fun z => nomatch z)) (fun v9 A31 n31 _ hQ => ?_)
                          obtain ⟨e9, hn31, hN31, v31, m31, hW31, hu31, hg31⟩ := hQ
                          cases e9
                          have hv31 : n0 < v31 ∧ v31 < n31 := by omega
                          have hfr31 : ∀ z, z < n0 → A31 z = A0 z := fun z hz => (hg31 z (by omega) (by omega) (by omega)).trans (hfr30 z hz)
                          refine J_callV (As := []) dX8_text_547 ml_X8_89 cal_J4_toString_0e30d im_J4_toString_0e30d se_J4_toString_0e30d hW31.1 rfl rfl rfl (Nat.le_of_ble_eq_true rfl) ⟨by omega, by show 8 + (1 + 11) + _ ≤ _; omega⟩ ⟨by omega, by omega⟩ (c_J4_toString_0e30d hst hW31 (by have h9 := hl; rw [etx] at h9; simp only [List.length_append, List.length_nil] at h9 ⊢; omega)) (fun _ _ _ _ hE => absurd hE.1 (fun z => nomatch z)) (fun v9 A32 n32 _ hQ => ?_)
                          obtain ⟨e9, hn32, hT32, ⟨g9, hB9, hh9, hf9⟩, hg32⟩ := hQ
                          cases e9
                          refine J_areturn (C := _) dX8_text_550 rfl (by omega) (by omega) ?_
                          refine ⟨_, rfl, ?_, fun z hz => (hg32 z (by omega)).trans ((hfr31 z (by omega)).trans (hfr0 z hz))⟩
                          rw [etx]
                          exact Or.inr ⟨_, g9, hT32, hB9, hh9, hf9⟩
                        · exfalso; simp only [i_lt, i_le, i_eq, i_0, i_1, i_8, ek, eu, show (13 : Int32).toInt = 13 from rfl, show (15 : Int32).toInt = 15 from rfl, show (25 : Int32).toInt = 25 from rfl, show (26 : Int32).toInt = 26 from rfl, show (27 : Int32).toInt = 27 from rfl] at h514; omega
                      · exfalso; simp only [i_lt, i_le, i_eq, i_0, i_1, i_8, ek, eu, show (13 : Int32).toInt = 13 from rfl, show (15 : Int32).toInt = 15 from rfl, show (25 : Int32).toInt = 25 from rfl, show (26 : Int32).toInt = 26 from rfl, show (27 : Int32).toInt = 27 from rfl] at h445; omega
                    · exfalso; simp only [i_lt, i_le, i_eq, i_0, i_1, i_8, ek, eu, show (13 : Int32).toInt = 13 from rfl, show (15 : Int32).toInt = 15 from rfl, show (25 : Int32).toInt = 25 from rfl, show (26 : Int32).toInt = 26 from rfl, show (27 : Int32).toInt = 27 from rfl] at h433; omega
                  · exfalso; simp only [i_lt, i_le, i_eq, i_0, i_1, i_8, ek, eu, show (13 : Int32).toInt = 13 from rfl, show (15 : Int32).toInt = 15 from rfl, show (25 : Int32).toInt = 25 from rfl, show (26 : Int32).toInt = 26 from rfl, show (27 : Int32).toInt = 27 from rfl] at h381; omega
                · exfalso; simp only [i_lt, i_le, i_eq, i_0, i_1, i_8, ek, eu, show (13 : Int32).toInt = 13 from rfl, show (15 : Int32).toInt = 15 from rfl, show (25 : Int32).toInt = 25 from rfl, show (26 : Int32).toInt = 26 from rfl, show (27 : Int32).toInt = 27 from rfl] at h319; omega
              · exfalso; simp only [i_lt, i_le, i_eq, i_0, i_1, i_8, ek, eu, show (13 : Int32).toInt = 13 from rfl, show (15 : Int32).toInt = 15 from rfl, show (25 : Int32).toInt = 25 from rfl, show (26 : Int32).toInt = 26 from rfl, show (27 : Int32).toInt = 27 from rfl] at h247; omega
            · exfalso; simp only [i_lt, i_le, i_eq, i_0, i_1, i_8, ek, eu, show (13 : Int32).toInt = 13 from rfl, show (15 : Int32).toInt = 15 from rfl, show (25 : Int32).toInt = 25 from rfl, show (26 : Int32).toInt = 26 from rfl, show (27 : Int32).toInt = 27 from rfl] at h207; omega
          · exfalso; simp only [i_lt, i_le, i_eq, i_0, i_1, i_8, ek, eu, show (13 : Int32).toInt = 13 from rfl, show (15 : Int32).toInt = 15 from rfl, show (25 : Int32).toInt = 25 from rfl, show (26 : Int32).toInt = 26 from rfl, show (27 : Int32).toInt = 27 from rfl] at h161; omega
        · exfalso; simp only [i_lt, i_le, i_eq, i_0, i_1, i_8, ek, eu, show (13 : Int32).toInt = 13 from rfl, show (15 : Int32).toInt = 15 from rfl, show (25 : Int32).toInt = 25 from rfl, show (26 : Int32).toInt = 26 from rfl, show (27 : Int32).toInt = 27 from rfl] at h149; omega
      · exfalso; simp only [i_lt, i_le, i_eq, i_0, i_1, i_8, ek, eu, show (13 : Int32).toInt = 13 from rfl, show (15 : Int32).toInt = 15 from rfl, show (25 : Int32).toInt = 25 from rfl, show (26 : Int32).toInt = 26 from rfl, show (27 : Int32).toInt = 27 from rfl] at h118; omega
  refine J_bipush (v := 8) dX8_text_0 (by decide) ?_
  refine J_newS (N := 8) dX8_text_2 cl_X8_39 (by decide) (by decide) (by decide) (by omega) (by omega) ?_
  refine J_up (fun A1 g1 o1 => ?_)
  refine J_dup dX8_text_5 rfl ?_
  refine J_iconst (v := 0) dX8_text_6 (by decide) ?_
  refine J_ldcS 11 dX8_text_7 rfl ?_
  refine J_aastSQ 0 dX8_text_9 g1 rfl (by decide) (by decide) (by decide) (fun A2 g2 o2 => ?_)
  refine J_dup dX8_text_10 rfl ?_
  refine J_iconst (v := 1) dX8_text_11 (by decide) ?_
  refine J_ldcS 12 dX8_text_12 rfl ?_
  refine J_aastSQ 1 dX8_text_14 g2 rfl (by decide) (by decide) (by decide) (fun A3 g3 o3 => ?_)
  refine J_dup dX8_text_15 rfl ?_
  refine J_iconst (v := 2) dX8_text_16 (by decide) ?_
  refine J_ldcS 13 dX8_text_17 rfl ?_
  refine J_aastSQ 2 dX8_text_19 g3 rfl (by decide) (by decide) (by decide) (fun A4 g4 o4 => ?_)
  refine J_dup dX8_text_20 rfl ?_
  refine J_iconst (v := 3) dX8_text_21 (by decide) ?_
  refine J_ldcS 14 dX8_text_22 rfl ?_
  refine J_aastSQ 3 dX8_text_24 g4 rfl (by decide) (by decide) (by decide) (fun A5 g5 o5 => ?_)
  refine J_dup dX8_text_25 rfl ?_
  refine J_iconst (v := 4) dX8_text_26 (by decide) ?_
  refine J_ldcS 15 dX8_text_27 rfl ?_
  refine J_aastSQ 4 dX8_text_29 g5 rfl (by decide) (by decide) (by decide) (fun A6 g6 o6 => ?_)
  refine J_dup dX8_text_30 rfl ?_
  refine J_iconst (v := 5) dX8_text_31 (by decide) ?_
  refine J_ldcS 16 dX8_text_32 rfl ?_
  refine J_aastSQ 5 dX8_text_34 g6 rfl (by decide) (by decide) (by decide) (fun A7 g7 o7 => ?_)
  refine J_dup dX8_text_35 rfl ?_
  refine J_bipush (v := 6) dX8_text_36 (by decide) ?_
  refine J_ldcS 17 dX8_text_38 rfl ?_
  refine J_aastSQ 6 dX8_text_40 g7 rfl (by decide) (by decide) (by decide) (fun A8 g8 o8 => ?_)
  refine J_dup dX8_text_41 rfl ?_
  refine J_bipush (v := 7) dX8_text_42 (by decide) ?_
  refine J_ldcS 18 dX8_text_44 rfl ?_
  refine J_aastSQ 7 dX8_text_46 g8 rfl (by decide) (by decide) (by decide) (fun A9 g9 o9 => ?_)
  refine J_astore_n (L' := [(1, _), (0, _)]) dX8_text_47 rfl (by decide) rfl ?_
  refine J_bipush (v := 6) dX8_text_48 (by decide) ?_
  refine J_newS (N := 6) dX8_text_50 cl_X8_39 (by decide) (by decide) (by decide) (by omega) (by omega) ?_
  refine J_up (fun A10 g10 o10 => ?_)
  refine J_dup dX8_text_53 rfl ?_
  refine J_iconst (v := 0) dX8_text_54 (by decide) ?_
  refine J_ldcS 19 dX8_text_55 rfl ?_
  refine J_aastSQ 0 dX8_text_57 g10 rfl (by decide) (by decide) (by decide) (fun A11 g11 o11 => ?_)
  refine J_dup dX8_text_58 rfl ?_
  refine J_iconst (v := 1) dX8_text_59 (by decide) ?_
  refine J_ldcS 20 dX8_text_60 rfl ?_
  refine J_aastSQ 1 dX8_text_62 g11 rfl (by decide) (by decide) (by decide) (fun A12 g12 o12 => ?_)
  refine J_dup dX8_text_63 rfl ?_
  refine J_iconst (v := 2) dX8_text_64 (by decide) ?_
  refine J_ldcS 21 dX8_text_65 rfl ?_
  refine J_aastSQ 2 dX8_text_67 g12 rfl (by decide) (by decide) (by decide) (fun A13 g13 o13 => ?_)
  refine J_dup dX8_text_68 rfl ?_
  refine J_iconst (v := 3) dX8_text_69 (by decide) ?_
  refine J_ldcS 22 dX8_text_70 rfl ?_
  refine J_aastSQ 3 dX8_text_72 g13 rfl (by decide) (by decide) (by decide) (fun A14 g14 o14 => ?_)
  refine J_dup dX8_text_73 rfl ?_
  refine J_iconst (v := 4) dX8_text_74 (by decide) ?_
  refine J_ldcS 23 dX8_text_75 rfl ?_
  refine J_aastSQ 4 dX8_text_77 g14 rfl (by decide) (by decide) (by decide) (fun A15 g15 o15 => ?_)
  refine J_dup dX8_text_78 rfl ?_
  refine J_iconst (v := 5) dX8_text_79 (by decide) ?_
  refine J_ldcS 24 dX8_text_80 rfl ?_
  refine J_aastSQ 5 dX8_text_82 g15 rfl (by decide) (by decide) (by decide) (fun A16 g16 o16 => ?_)
  refine J_astore_n (L' := [(2, _), (1, _), (0, _)]) dX8_text_83 rfl (by decide) rfl ?_
  refine J_iconst (v := 5) dX8_text_84 (by decide) ?_
  refine J_newS (N := 5) dX8_text_85 cl_X8_39 (by decide) (by decide) (by decide) (by omega) (by omega) ?_
  refine J_up (fun A17 g17 o17 => ?_)
  refine J_dup dX8_text_88 rfl ?_
  refine J_iconst (v := 0) dX8_text_89 (by decide) ?_
  refine J_ldcS 25 dX8_text_90 rfl ?_
  refine J_aastSQ 0 dX8_text_92 g17 rfl (by decide) (by decide) (by decide) (fun A18 g18 o18 => ?_)
  refine J_dup dX8_text_93 rfl ?_
  refine J_iconst (v := 1) dX8_text_94 (by decide) ?_
  refine J_ldcS 26 dX8_text_95 rfl ?_
  refine J_aastSQ 1 dX8_text_97 g18 rfl (by decide) (by decide) (by decide) (fun A19 g19 o19 => ?_)
  refine J_dup dX8_text_98 rfl ?_
  refine J_iconst (v := 2) dX8_text_99 (by decide) ?_
  refine J_ldcS 27 dX8_text_100 rfl ?_
  refine J_aastSQ 2 dX8_text_102 g19 rfl (by decide) (by decide) (by decide) (fun A20 g20 o20 => ?_)
  refine J_dup dX8_text_103 rfl ?_
  refine J_iconst (v := 3) dX8_text_104 (by decide) ?_
  refine J_ldcS 28 dX8_text_105 rfl ?_
  refine J_aastSQ 3 dX8_text_107 g20 rfl (by decide) (by decide) (by decide) (fun A21 g21 o21 => ?_)
  refine J_dup dX8_text_108 rfl ?_
  refine J_iconst (v := 4) dX8_text_109 (by decide) ?_
  refine J_ldcS 29 dX8_text_110 rfl ?_
  refine J_aastSQ 4 dX8_text_112 g21 rfl (by decide) (by decide) (by decide) (fun A22 g22 o22 => ?_)
  refine J_astore_n (L' := [(3, _), (2, _), (1, _), (0, _)]) dX8_text_113 rfl (by decide) rfl ?_
  exact r114 _ _ _ _ ((o22 (n) (by omega)).trans ((o21 (n) (by omega)).trans ((o20 (n) (by omega)).trans ((o19 (n) (by omega)).trans ((o18 (n) (by omega)).trans ((o17 (n) (by omega)).trans ((o16 (n) (by omega)).trans ((o15 (n) (by omega)).trans ((o14 (n) (by omega)).trans ((o13 (n) (by omega)).trans ((o12 (n) (by omega)).trans ((o11 (n) (by omega)).trans ((o10 (n) (by omega)).trans (g9)))))))))))))) (fun p hp => by rcases (show p = 0 ∨ p = 1 ∨ p = 2 ∨ p = 3 ∨ p = 4 ∨ p = 5 ∨ p = 6 ∨ p = 7 by omega) with rfl | rfl | rfl | rfl | rfl | rfl | rfl | rfl <;> rfl) ((o22 (n + 1) (by omega)).trans ((o21 (n + 1) (by omega)).trans ((o20 (n + 1) (by omega)).trans ((o19 (n + 1) (by omega)).trans ((o18 (n + 1) (by omega)).trans ((o17 (n + 1) (by omega)).trans (g16))))))) (fun p hp => by rcases (show p = 0 ∨ p = 1 ∨ p = 2 ∨ p = 3 ∨ p = 4 ∨ p = 5 by omega) with rfl | rfl | rfl | rfl | rfl | rfl <;> rfl) (g22) (fun p hp => by rcases (show p = 0 ∨ p = 1 ∨ p = 2 ∨ p = 3 ∨ p = 4 by omega) with rfl | rfl | rfl | rfl | rfl <;> rfl) (fun z hz => (o22 z (by omega)).trans ((o21 z (by omega)).trans ((o20 z (by omega)).trans ((o19 z (by omega)).trans ((o18 z (by omega)).trans ((o17 z (by omega)).trans ((o16 z (by omega)).trans ((o15 z (by omega)).trans ((o14 z (by omega)).trans ((o13 z (by omega)).trans ((o12 z (by omega)).trans ((o11 z (by omega)).trans ((o10 z (by omega)).trans ((o9 z (by omega)).trans ((o8 z (by omega)).trans ((o7 z (by omega)).trans ((o6 z (by omega)).trans ((o5 z (by omega)).trans ((o4 z (by omega)).trans ((o3 z (by omega)).trans ((o2 z (by omega)).trans ((o1 z (by omega)).trans (rfl)))))))))))))))))))))))
theorem text_all (hst : l.stackTraces = false) : ∀ f, TxC G l f := by
  intro f
  induction f with
  | zero => intro A n v tr h; exact h.elim
  | succ f ih => exact text_s hst ih
end XTX
