/-! ROWS MORE: the script, doubles, catching; what a call of the class leaves -/
section XRW
variable {G : xx_G} {l : Launch} {M : xx_M} {fr lo mc ms : Nat} {Post : xx_Q} {pc : Nat} {L : List (Nat × Value)} {S : List Value} {A A' : xx_H} {n k j : Nat}
/-- an int of the script -/
theorem J_scr {i : Int32} {q : Nat} (hd : decode M.2.2.1 pc = .ok (.iaload, 1)) (hi : i = nI q) (hq : q < G.2.2.2 400) (hL : G.2.2.2 400 < 2147483648) (kk : xx_J G l M fr lo mc ms Post (pc + 1) L (.int (xx_scr G q) :: S) A n k j) : xx_J G l M fr lo mc ms Post pc L (.int i :: .ref 160 :: S) A n k j := by
  subst hi
  intro p e s m args below meth c ad0 n0 F ad H locs ls ⟨a1, a2, a3, a4, a5, a6, a7⟩
  have hZ := F.2.2.2.2.2.2.2.2.2.2.1.2.2.1.2.2
  rw [← a3.2.1 160 (by omega)] at hZ
  obtain ⟨cell, g1, g2, g3, g4, g5, g6, g7⟩ := hZ.kept (H1 := H) a4.2.1
  have hc : (nI q).toNatClampNeg = q := nI_clamp (by omega)
  have hin : vp_in (nI q) (G.2.2.2 400) := vp_in_nI hq (by omega)
  have hvl := g6 (nI q).toNatClampNeg (by rw [hc]; exact hq)
  dsimp only at hvl
  have e9 : xx_scr G (nI q).toNatClampNeg = xx_scr G q := by rw [hc]
  rw [e9] at hvl
  exact W.iald (v := .int (xx_scr G q)) F.1 F.2.1 g1 g2 g3 (fun h => hin (h.elim Or.inl (fun h => Or.inr (Nat.le_trans g4 h)))) hvl rfl rfl hd (kk p e s m args below meth c ad0 n0 F ad H locs ls ⟨a1, a2, a3, a4, a5, xx_c trivial (xx_t (xx_t a6)), a7⟩)
theorem J_scl (hd : decode M.2.2.1 pc = .ok (.arraylength, 1)) (kk : xx_J G l M fr lo mc ms Post (pc + 1) L (.int (nI (G.2.2.2 400)) :: S) A n k j) : xx_J G l M fr lo mc ms Post pc L (.ref 160 :: S) A n k j := by
  intro p e s m args below meth c ad0 n0 F ad H locs ls ⟨a1, a2, a3, a4, a5, a6, a7⟩
  have hZ := F.2.2.2.2.2.2.2.2.2.2.1.2.2.1.2.2
  rw [← a3.2.1 160 (by omega)] at hZ
  obtain ⟨cell, g1, g2, g3, g4, g5, g6, g7⟩ := hZ.kept (H1 := H) a4.2.1
  exact W.alen (n := nI (G.2.2.2 400)) F.1 F.2.1 g1 g2 g5 rfl rfl hd (kk p e s m args below meth c ad0 n0 F ad H locs ls ⟨a1, a2, a3, a4, a5, xx_c trivial (xx_t a6), a7⟩)
theorem J_dconst0 (hd : decode M.2.2.1 pc = .ok (.dconst 0, 1)) (kk : xx_J G l M fr lo mc ms Post (pc + 1) L (.double FP.dconst0 :: S) A n k j) : xx_J G l M fr lo mc ms Post pc L S A n k j := by
  intro p e s m args below meth c ad0 n0 F ad H locs ls ⟨a1, a2, a3, a4, a5, a6, a7⟩
  exact lv_dconst0 F.1 F.2.1 hd (kk p e s m args below meth c ad0 n0 F ad H locs ls ⟨a1, a2, a3, a4, a5, xx_c trivial a6, a7⟩)
theorem J_ddiv {x y : UInt64} (hd : decode M.2.2.1 pc = .ok (.ddiv, 1)) (hne : vf_n64 (FP.ddiv x y)) (kk : xx_J G l M fr lo mc ms Post (pc + 1) L (.double (FP.ddiv x y) :: S) A n k j) : xx_J G l M fr lo mc ms Post pc L (.double y :: .double x :: S) A n k j := by
  intro p e s m args below meth c ad0 n0 F ad H locs ls ⟨a1, a2, a3, a4, a5, a6, a7⟩
  exact lv_ddiv F.1 F.2.1 hd hne (kk p e s m args below meth c ad0 n0 F ad H locs ls ⟨a1, a2, a3, a4, a5, xx_c trivial (xx_t (xx_t a6)), a7⟩)
theorem J_dcmp {x y : UInt64} {op : CmpOp} (hd : decode M.2.2.1 pc = .ok (.dcmp op, 1)) (kk : xx_J G l M fr lo mc ms Post (pc + 1) L (.int (Op.cmpValue (FP.dcmp x y) op) :: S) A n k j) : xx_J G l M fr lo mc ms Post pc L (.double y :: .double x :: S) A n k j := by
  intro p e s m args below meth c ad0 n0 F ad H locs ls ⟨a1, a2, a3, a4, a5, a6, a7⟩
  exact lv_dcmp F.1 F.2.1 hd (kk p e s m args below meth c ad0 n0 F ad H locs ls ⟨a1, a2, a3, a4, a5, xx_c trivial (xx_t (xx_t a6)), a7⟩)
/-- a handle more, for what is caught -/
theorem xx_P.more {ad : Nat → Nat} {H : Heap} (h : xx_P G ad n A H) (q : Nat) : xx_P G (va_up ad n q) (n + 1) A H := by
  obtain ⟨p1, p2, p3, p4⟩ := h
  have ext : ∀ z, z < n → va_up ad n q z = ad z := fun z hz => by simp [va_up, Nat.ne_of_lt hz]
  refine ⟨by omega, fun h hh => by rw [ext h (by omega)]; exact p2 h hh, fun h e he => ?_, fun h h' e e' he he' hq => ?_⟩
  · obtain ⟨b1, b2, b3, b4, b5⟩ := p3 h e he
    exact ⟨b1, by omega, by rw [ext h b2]; exact b3, xx_ew_le (Nat.le_succ n) b4, by rw [ext h b2, xx_e_ext ext b4]; exact b5⟩
  · rw [ext h (p3 h e he).2.1, ext h' (p3 h' e' he').2.1] at hq
    exact p4 h h' e e' he he' hq
/-- an exception that is caught here -/
theorem JX_catch {E name : String} (pre : List ExceptionTableEntry) (x : ExceptionTableEntry) (suf : List ExceptionTableEntry) (hsplit : tableOf M.2.2.2.2.2 = pre ++ x :: suf) (hpass : pre = []) (hx : covers x pc = true) (h0 : x.catchType ≠ 0) (hlink : Cond.classLink M.1 x.catchType name ∈ xx_T) (hcast : Cond.castable E name ∈ xx_N) (kk : xx_J G l M fr lo mc ms Post x.handlerPc L [.ref n] A (n + 1) k j) : xx_JX G l M fr lo mc ms Post pc L E A n k j := by
  intro p e s m args below meth c ad0 n0 F ad H locs ls rest q ce ⟨a1, a2, a3, a4, a5, a6, a7⟩ h1 h2 h3
  have hK := F.2.2.2.2.2.2.2.2.2.2.1
  refine vx_catch (own := M.1) (name := name) (E := E) (ce := ce) F.2.2.2.2.2.2.1 pre x suf (F.2.2.2.2.2.2.2.2.1.trans hsplit) (fun z hz => Or.inr ?_) hx h0 (F.2.2.2.2.2.2.2.1 _ hlink) (va_Nw.use rfl (hK.2.1 _ hcast)) h1 h2 h3 ?_
  · subst hpass; exact nomatch hz
  · have ext : ∀ z, z < n → va_up ad n q z = ad z := fun z hz => by simp [va_up, Nat.ne_of_lt hz]
    have K := kk p e s m args below meth c ad0 n0 F (va_up ad n q) H locs ls ⟨by omega, fun z hz => by rw [ext z (by omega)]; exact a2 z hz, a3.more q, a4, ?_, xx_c (Nat.lt_succ_self n) (fun _ hv => nomatch hv), fun q hq => xx_vw_le (Nat.le_succ n) (a7 q hq)⟩
    · simp only [List.map_cons, List.map_nil, xx_v, va_up, if_true] at K
      exact K
    · have : L.map (fun q2 => (q2.1, xx_v (va_up ad n q) q2.2)) = L.map (fun q => (q.1, xx_v ad q.2)) := List.map_congr_left fun q hq => by rw [xx_v_ext ext (a7 q hq)]
      rw [this]
      exact a5
theorem th3_in {L : List Cond} (h : ∀ w ∈ L, w ∈ lw_tbl) (hg : L.all (fun w => goodWord w || xx_odd w) = true) : ∀ w ∈ L, w ∈ xx_T ∨ w ∈ xx_N := fun w hw => by
  have z := List.all_eq_true.mp hg w hw
  rw [Bool.or_eq_true] at z
  exact z.elim (fun g => Or.inl (xx_inT (h w hw) g)) (fun g => Or.inr (List.mem_filter.mpr ⟨h w hw, g⟩))
theorem th3_X6_55 : ∀ w ∈ vx_atS RX6 55 "java/lang/IllegalStateException" ["java/lang/RuntimeException", "java/lang/Exception"], w ∈ xx_T ∨ w ∈ xx_N := th3_in (by decide +kernel) (by decide +kernel)
theorem th4_X6_55 : ∀ w ∈ Cond.classLink RX6 51 "java/lang/IllegalStateException" :: Cond.initialized "java/lang/IllegalStateException" :: vx_atS RX6 55 "java/lang/IllegalStateException" ["java/lang/RuntimeException", "java/lang/Exception"], vx_ot w = true := by decide +kernel
theorem th3_X6_66 : ∀ w ∈ vx_atS RX6 66 "java/lang/IllegalArgumentException" ["java/lang/RuntimeException", "java/lang/Exception"], w ∈ xx_T ∨ w ∈ xx_N := th3_in (by decide +kernel) (by decide +kernel)
theorem th4_X6_66 : ∀ w ∈ Cond.classLink RX6 62 "java/lang/IllegalArgumentException" :: Cond.initialized "java/lang/IllegalArgumentException" :: vx_atS RX6 66 "java/lang/IllegalArgumentException" ["java/lang/RuntimeException", "java/lang/Exception"], vx_ot w = true := by decide +kernel
theorem th3_X6_134 : ∀ w ∈ vx_atS RX6 134 "java/lang/IndexOutOfBoundsException" ["java/lang/RuntimeException", "java/lang/Exception"], w ∈ xx_T ∨ w ∈ xx_N := th3_in (by decide +kernel) (by decide +kernel)
theorem th4_X6_134 : ∀ w ∈ Cond.classLink RX6 130 "java/lang/IndexOutOfBoundsException" :: Cond.initialized "java/lang/IndexOutOfBoundsException" :: vx_atS RX6 134 "java/lang/IndexOutOfBoundsException" ["java/lang/RuntimeException", "java/lang/Exception"], vx_ot w = true := by decide +kernel
/-- what a call answers: a value, or an exception of the kind's class -/
def ansR (ex : Int32 → String) (a : Ans) : xx_R := if a.1 = 0 then .inl (some (.int a.2)) else .inr (ex a.1)
theorem ansR_0 {ex : Int32 → String} {v : Int32} : ansR ex (0, v) = .inl (some (.int v)) := if_pos rfl
theorem ansR_k {ex : Int32 → String} {c v : Int32} (h : ¬ c = 0) : ansR ex (c, v) = .inr (ex c) := if_neg h
def xQ (ex : Int32 → String) (a : Ans) (n : Nat) (K : xx_H → Prop) : xx_Q := fun r A' n' => n' = n ∧ r = ansR ex a ∧ K A'
/-- a test that throws or does nothing -/
def nQ (c : Prop) [Decidable c] (E : String) (n : Nat) (A : xx_H) : xx_Q := fun r A' n' => n' = n ∧ A' = A ∧ r = (if c then .inl none else .inr E)
abbrev eIO : String := "java/lang/IndexOutOfBoundsException"
abbrev eIA : String := "java/lang/IllegalArgumentException"
abbrev eIS : String := "java/lang/IllegalStateException"
abbrev exA (a : String) : Int32 → String := fun _ => a
abbrev exB (a c : String) : Int32 → String := fun q => if q = 1 then a else c
abbrev exC (a c d : String) : Int32 → String := fun q => if q = 1 then a else if q = 2 then c else d
theorem nQ_x {c : Prop} [Decidable c] {E E1 : String} {n1 : Nat} (h : nQ c E n A (.inr E1) A' n1) : n = n1 ∧ A = A' ∧ E = E1 ∧ ¬ c := by
  obtain ⟨h1, h2, h3⟩ := h
  by_cases hc : c
  · rw [if_pos hc] at h3; cases h3
  · rw [if_neg hc] at h3; cases h3; exact ⟨h1.symm, h2.symm, rfl, hc⟩
theorem nQ_v {c : Prop} [Decidable c] {E : String} {v : Option Value} {n1 : Nat} (h : nQ c E n A (.inl v) A' n1) : n = n1 ∧ A = A' ∧ none = v ∧ c := by
  obtain ⟨h1, h2, h3⟩ := h
  by_cases hc : c
  · rw [if_pos hc] at h3; cases h3; exact ⟨h1.symm, h2.symm, rfl, hc⟩
  · rw [if_neg hc] at h3; cases h3
end XRW
