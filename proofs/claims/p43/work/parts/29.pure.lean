/-! THE REFERENCE: State, the order -/
section XS1
variable {G : xx_G} {l : Launch} {A A' : xx_H} {n : Nat} {bm bp bs bn ba : Nat} {vL nl : Nat → Int64} {M P S : xS}
theorem bx_congr {f g : Nat → Int32} : ∀ n, (∀ i, i < n → f i = g i) → bx_sum f n = bx_sum g n := by
  intro n
  induction n with
  | zero => intro _; rfl
  | succ n ih =>
    intro h
    show bx_sum f n + f n = bx_sum g n + g n
    rw [ih (fun i hi => h i (by omega)), h n (by omega)]
end XS1
/-! THE REFERENCE: the order, who rests -/
section XS2
variable {G : xx_G} {l : Launch} {A A' : xx_H} {n : Nat} {bm bp bs bn ba : Nat} {vL nl : Nat → Int64} {M P S : xS}
/-- the points of those met are no great numbers -/
def bdP (F : xS) (nw : Nat) : Prop := ∀ w, w < nw → 0 ≤ (rpts F nw w).toInt ∧ (rpts F nw w).toInt < 2 ^ 30
/-- how many stand ahead of w -/
def rkN (R : Nat → Nat → Bool) (nw w : Nat) : Nat := (List.range nw).countP (fun a => R a w)
/-- ls: all below nw, in the order R -/
def srt (R : Nat → Nat → Bool) (nw : Nat) (ls : List Nat) : Prop := ls.Perm (List.range nw) ∧ ls.Pairwise (fun a b => R a b = true)
theorem srt.ord {R : Nat → Nat → Bool} {nw : Nat} {ls : List Nat} (h : srt R nw ls) : ordOf R nw (fun p => nI (ls.getD p 0)) ls := ⟨h.1, h.2, fun _ _ => rfl⟩
theorem srt.len {R : Nat → Nat → Bool} {nw : Nat} {ls : List Nat} (h : srt R nw ls) : ls.length = nw := h.ord.len
theorem srt.lt {R : Nat → Nat → Bool} {nw : Nat} {ls : List Nat} (h : srt R nw ls) {p : Nat} (hp : p < nw) : ls.getD p 0 < nw := h.ord.lt hp
theorem srt.rank {R : Nat → Nat → Bool} (hR : sto R) {nw : Nat} {ls : List Nat} (h : srt R nw ls) {p : Nat} (hp : p < nw) : rkN R nw (ls.getD p 0) = p := h.ord.rank hR hp
theorem srt.ex {R : Nat → Nat → Bool} {nw : Nat} {ls : List Nat} (h : srt R nw ls) {w : Nat} (hw : w < nw) : ∃ p, p < nw ∧ ls.getD p 0 = w := by
  have hm : w ∈ ls := h.1.mem_iff.mpr (List.mem_range.mpr hw)
  obtain ⟨p, hp, e⟩ := List.mem_iff_getElem.mp hm
  exact ⟨p, by rw [← h.len]; exact hp, by rw [getD_at hp]; exact e⟩
theorem srt.ne {R : Nat → Nat → Bool} (hR : sto R) {nw : Nat} {ls : List Nat} (h : srt R nw ls) {r w : Nat} (hr : r < nw) (hw : w < nw) (hne : ¬ w = ls.getD r 0) : ¬ rkN R nw w = r := by
  obtain ⟨p, hp, e⟩ := h.ex hw
  intro z
  rw [← e, h.rank hR hp] at z
  subst z
  exact hne e.symm
end XS2
/-! THE REFERENCE: pairs, pair, tell -/
section XS4
variable {G : xx_G} {l : Launch} {A A' : xx_H} {n : Nat} {bm bp bs bn ba : Nat} {vL nl : Nat → Int64} {M M' M1 P S : xS}
theorem rs_ev2 (k : Nat) : rs_k k = 2 * (rs_k k / 2) := by unfold rs_k; split <;> omega
theorem rs_le (k : Nat) : rs_k k ≤ k := by unfold rs_k; split <;> omega
end XS4
/-! THE REFERENCE: pair, tell -/
section XS5
variable {G : xx_G} {l : Launch} {A A' : xx_H} {n : Nat} {bm bp bs bn ba : Nat} {vL nl : Nat → Int64} {M M' M1 P S S1 : xS}
theorem xs_ext {F F' : xS} (h1 : F.1 = F'.1) (h2 : ∀ k, F.2 k = F'.2 k) : F = F' := Prod.ext h1 (funext h2)
end XS5
/-! THE REFERENCE: pair -/
section XS7
variable {G : xx_G} {l : Launch} {A A' : xx_H} {n : Nat} {bm bp bs bn ba : Nat} {vL nl : Nat → Int64} {M M' M1 P S S1 : xS}
abbrev pX (np : Nat) (r : Int32) : xS := (fun q => if q = 2 then r else nI np, fun _ _ => 0)
/-- who meets whom stands in the order -/
theorem fd_prop {F : xS} {ls : List Nat} {nw : Nat} (hls : srt (f_R F nw) nw ls) (h12 : nw ≤ 12) {q : Nat} (hq : q < fd_k F ls nw / 2) : fd_1 F ls nw q < nw ∧ fd_2 F ls nw q < nw ∧ f_R F nw (fd_1 F ls nw q) (fd_2 F ls nw q) = true := by
  have hk12 : fd_k F ls nw ≤ 12 := Nat.le_trans (rs_le _) (Nat.le_trans lup_len h12)
  have hke : fd_k F ls nw = 2 * (fd_k F ls nw / 2) := rs_ev2 _
  obtain ⟨hs9, hpc9⟩ := setAt_ok (met := fd_m F ls nw) hk12 hke q (by omega)
  have hpc : pcn (setAt (fd_m F ls nw) (fd_k F ls nw) (fd_k F ls nw / 2) q) 12 = 2 * (fd_k F ls nw / 2 - (q + 1) + 1) := by omega
  obtain ⟨t1, t2, t3, t4, t5⟩ := prt_spec (met := fd_m F ls nw) hk12 hs9 hpc (by omega)
  have hpw : (lup F ls nw).Pairwise (fun a b => f_R F nw a b = true) := (hls.2.sublist (List.take_sublist _ _)).filter _
  have hlt : ∀ a, a < (lup F ls nw).length → fd_l F ls nw a < nw := fun a ha => by
    have hm : (lup F ls nw)[a] ∈ ls := List.mem_of_mem_take (List.mem_filter.mp (List.getElem_mem ha)).1
    show (lup F ls nw).getD a 0 < nw
    rw [getD_at ha]
    exact List.mem_range.mp (hls.1.mem_iff.mp hm)
  have hR : ∀ a c, a < c → c < (lup F ls nw).length → f_R F nw (fd_l F ls nw a) (fd_l F ls nw c) = true := fun a c hac hc => by
    show f_R F nw ((lup F ls nw).getD a 0) ((lup F ls nw).getD c 0) = true
    rw [getD_at hc, getD_at (by omega)]
    exact List.pairwise_iff_getElem.mp hpw a c (by omega) hc hac
  have hlen : fd_k F ls nw ≤ (lup F ls nw).length := rs_le _
  -- the line without the one who rests goes up
  have hup : ∀ a, a < fd_k F ls nw → ∃ p, p < (lup F ls nw).length ∧ fd_a F ls nw a = fd_l F ls nw p ∧ a ≤ p ∧ p ≤ a + 1 ∧ (∀ c, a < c → c < fd_k F ls nw → ∃ p', p' < (lup F ls nw).length ∧ fd_a F ls nw c = fd_l F ls nw p' ∧ p < p') := by
    intro a ha
    unfold fd_a fd_k rs_l rs_k at *
    by_cases hev : (lup F ls nw).length % 2 = 0
    · simp only [if_pos hev] at *
      exact ⟨a, by omega, rfl, Nat.le_refl _, by omega, fun c hac hc => ⟨c, by omega, rfl, hac⟩⟩
    · simp only [if_neg hev] at *
      by_cases hc1 : a < chs (rst_r F (fd_l F ls nw)) (lup F ls nw).length
      · refine ⟨a, by omega, by rw [if_pos hc1], Nat.le_refl _, by omega, fun c hac hc => ?_⟩
        by_cases hc2 : c < chs (rst_r F (fd_l F ls nw)) (lup F ls nw).length
        · exact ⟨c, by omega, by rw [if_pos hc2], hac⟩
        · exact ⟨c + 1, by omega, by rw [if_neg hc2], by omega⟩
      · refine ⟨a + 1, by omega, by rw [if_neg hc1], by omega, by omega, fun c hac hc => ?_⟩
        exact ⟨c + 1, by omega, by rw [if_neg (by omega)], by omega⟩
  obtain ⟨p, hp1, hp2, -, -, hp3⟩ := hup (low (setAt (fd_m F ls nw) (fd_k F ls nw) (fd_k F ls nw / 2) q)) (by omega)
  obtain ⟨p', hq1, hq2, hq3⟩ := hp3 _ t3 t4
  unfold fd_1 fd_2
  rw [hp2, hq2]
  exact ⟨hlt _ hp1, hlt _ hq1, hR _ _ hq3 hq1⟩
theorem fR_pts {F : xS} {nw a c : Nat} (h : f_R F nw a c = true) : ¬ f_pts F a < f_pts F c ∧ ¬ a = c := by
  refine ⟨fun z => ?_, fun z => ?_⟩
  · unfold f_R ahd at h
    by_cases e : f_pts F a = f_pts F c
    · rw [e, i_lt] at z; omega
    · rw [if_neg e] at h
      have := of_decide_eq_true h
      rw [i_lt] at this z
      omega
  · subst z
    have z2 : f_R F nw a a = false := (ahd_sto _ _ _).2.2 a
    exact Bool.false_ne_true (z2.symm.trans h)
theorem rsr_ok {F : xS} {ls : List Nat} {nw : Nat} (hls : srt (f_R F nw) nw ls) (h12 : nw ≤ 12) (h : ¬ rs_r F (fd_l F ls nw) (lup F ls nw).length = -1) : rs_r F (fd_l F ls nw) (lup F ls nw).length = nI (rs_r F (fd_l F ls nw) (lup F ls nw).length).toNatClampNeg ∧ (rs_r F (fd_l F ls nw) (lup F ls nw).length).toNatClampNeg < nw := by
  unfold rs_r at *
  by_cases hev : (lup F ls nw).length % 2 = 0
  · rw [if_pos hev] at h; exact absurd rfl h
  · simp only [if_neg hev] at *
    have hc := chs_lt (r := rst_r F (fd_l F ls nw)) (lup F ls nw).length (by omega)
    have hlt : fd_l F ls nw (chs (rst_r F (fd_l F ls nw)) (lup F ls nw).length) < nw := by
      have hm : (lup F ls nw)[chs (rst_r F (fd_l F ls nw)) (lup F ls nw).length] ∈ ls := List.mem_of_mem_take (List.mem_filter.mp (List.getElem_mem hc)).1
      show (lup F ls nw).getD _ 0 < nw
      rw [getD_at hc]
      exact List.mem_range.mp (hls.1.mem_iff.mp hm)
    rw [nI_clamp (by omega)]
    exact ⟨rfl, hlt⟩
def sxg (r u : Nat) (f : Nat → Int32) : Nat → Int32 := (sx_2 (fun _ => 0, fun _ => f) r u).2 2
theorem sx2_up (X : xS) (r u : Nat) : sx_2 X r u = a_up X 2 (sxg r u (X.2 2)) := by
  refine xs_ext rfl fun z => ?_
  by_cases h : z = 2
  · subst h; rfl
  · unfold sx_2
    simp only [va_up, if_neg h]
end XS7
/-! THE REFERENCE: ruled, tellAll -/
section XS9
variable {G : xx_G} {l : Launch} {A A' : xx_H} {n : Nat} {bm bp bs bn ba : Nat} {vL nl : Nat → Int64} {M M' M1 P S S1 : xS}
/-- all bouts that have no outcome are told by ru; how many red wins -/
def tlP (ru : xS → Nat → Nat → Int32) : Nat → Nat → xS → Int32 → xS × Int32
  | 0, _, F, c => (F, c)
  | d + 1, k, F, c => if F.2 6 k = -1 then tlP ru d (k + 1) (tellF F k (F.2 4 k).toNatClampNeg (F.2 5 k).toNatClampNeg (ru F (F.2 4 k).toNatClampNeg (F.2 5 k).toNatClampNeg)) (c + (if ru F (F.2 4 k).toNatClampNeg (F.2 5 k).toNatClampNeg = 0 then 1 else 0)) else tlP ru d (k + 1) F c
theorem tlP_s {ru : xS → Nat → Nat → Int32} {t k : Nat} {F : xS} {c : Int32} (h : k < t) : tlP ru (t - k) k F c = if F.2 6 k = -1 then tlP ru (t - (k + 1)) (k + 1) (tellF F k (F.2 4 k).toNatClampNeg (F.2 5 k).toNatClampNeg (ru F (F.2 4 k).toNatClampNeg (F.2 5 k).toNatClampNeg)) (c + (if ru F (F.2 4 k).toNatClampNeg (F.2 5 k).toNatClampNeg = 0 then 1 else 0)) else tlP ru (t - (k + 1)) (k + 1) F c := by
  rw [show t - k = (t - (k + 1)) + 1 by omega]
  rfl
/-- the bouts are of two -/
def bdV (F : xS) (nw nb : Nat) : Prop := ∀ q, q < nb → ∃ i j, F.2 4 q = nI i ∧ i < nw ∧ F.2 5 q = nI j ∧ j < nw ∧ ¬ i = j
theorem tellF_k {F : xS} {q i j : Nat} {v : Int32} : (tellF F q i j v).1 = F.1 ∧ (∀ k, ¬ k = 2 → ¬ k = 6 → (tellF F q i j v).2 k = F.2 k) ∧ (tellF F q i j v).2 6 = upd (F.2 6) q v := by
  unfold tellF
  split
  · refine ⟨rfl, fun k h2 h6 => ?_, ?_⟩
    · unfold drawF; simp [va_up, h2, h6]
    · unfold drawF; simp [va_up]
  split
  · refine ⟨rfl, fun k h2 h6 => ?_, ?_⟩
    · unfold winF; simp [va_up, h2, h6]
    · unfold winF; simp [va_up]
  · refine ⟨rfl, fun k h2 h6 => ?_, ?_⟩
    · unfold winF; simp [va_up, h2, h6]
    · unfold winF; simp [va_up]
theorem bdV_tell {F : xS} {nw nb q i j : Nat} {v : Int32} (h : bdV F nw nb) : bdV (tellF F q i j v) nw nb := fun k hk => by
  obtain ⟨a, c, h1, h2, h3, h4, h5⟩ := h k hk
  refine ⟨a, c, ?_, h2, ?_, h4, h5⟩
  · rw [(tellF_k (F := F)).2.1 4 (by decide) (by decide)]; exact h1
  · rw [(tellF_k (F := F)).2.1 5 (by decide) (by decide)]; exact h3
end XS9
