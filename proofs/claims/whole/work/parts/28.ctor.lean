/-! CONSTRUCTORS; the reference's worlds -/
section XCT
def layS (b : Nat) (F : xS) : List (Nat × va_E) := [(0, .inr (7, [.int (F.1 0), .int (F.1 1), .int (F.1 2), .ref (b + 1), .ref (b + 2), .ref (b + 3), .ref (b + 4), .ref (b + 5), .ref (b + 6), .ref (b + 7), .ref (b + 8), .ref (b + 9), .ref (b + 10), .ref (b + 11), .ref (b + 12), .ref (b + 13)])), (1, .inl (0, 12, .inl (F.2 1))), (2, .inl (0, 12, .inl (F.2 2))), (3, .inl (0, 12, .inl (F.2 3))), (4, .inl (0, 12, .inl (F.2 4))), (5, .inl (0, 12, .inl (F.2 5))), (6, .inl (0, 12, .inl (F.2 6))), (7, .inl (0, 12, .inl (F.2 7))), (8, .inl (0, 12, .inl (F.2 8))), (9, .inl (2, 12, .inl (F.2 9))), (10, .inl (0, 144, .inl (F.2 10))), (11, .inl (0, 6, .inl (F.2 11))), (12, .inl (0, 6, .inl (F.2 12))), (13, .inl (0, 6, .inl (F.2 13)))]
theorem wS_s0_0 {b : Nat} {F : xS} {A : xx_H} (h : xx_w b (layS b F) A) (x : Int32) : xx_w b (layS b (s_up F 0 x)) (xx_up A (b + 0) (.inr (7, [Value.int (F.1 0), .int (F.1 1), .int (F.1 2), .ref (b + 1), .ref (b + 2), .ref (b + 3), .ref (b + 4), .ref (b + 5), .ref (b + 6), .ref (b + 7), .ref (b + 8), .ref (b + 9), .ref (b + 10), .ref (b + 11), .ref (b + 12), .ref (b + 13)].set 0 (.int x)))) := h.put 0 _ rfl rfl
theorem wS_s0_1 {b : Nat} {F : xS} {A : xx_H} (h : xx_w b (layS b F) A) (x : Int32) : xx_w b (layS b (s_up F 1 x)) (xx_up A (b + 0) (.inr (7, [Value.int (F.1 0), .int (F.1 1), .int (F.1 2), .ref (b + 1), .ref (b + 2), .ref (b + 3), .ref (b + 4), .ref (b + 5), .ref (b + 6), .ref (b + 7), .ref (b + 8), .ref (b + 9), .ref (b + 10), .ref (b + 11), .ref (b + 12), .ref (b + 13)].set 1 (.int x)))) := h.put 0 _ rfl rfl
theorem wS_s0_2 {b : Nat} {F : xS} {A : xx_H} (h : xx_w b (layS b F) A) (x : Int32) : xx_w b (layS b (s_up F 2 x)) (xx_up A (b + 0) (.inr (7, [Value.int (F.1 0), .int (F.1 1), .int (F.1 2), .ref (b + 1), .ref (b + 2), .ref (b + 3), .ref (b + 4), .ref (b + 5), .ref (b + 6), .ref (b + 7), .ref (b + 8), .ref (b + 9), .ref (b + 10), .ref (b + 11), .ref (b + 12), .ref (b + 13)].set 2 (.int x)))) := h.put 0 _ rfl rfl
theorem wS_a1 {b : Nat} {F : xS} {A : xx_H} (h : xx_w b (layS b F) A) (f : Nat → Int32) : xx_w b (layS b (a_up F 1 f)) (xx_up A (b + 1) (.inl (0, 12, .inl f))) := h.put 1 _ rfl rfl
theorem wS_a2 {b : Nat} {F : xS} {A : xx_H} (h : xx_w b (layS b F) A) (f : Nat → Int32) : xx_w b (layS b (a_up F 2 f)) (xx_up A (b + 2) (.inl (0, 12, .inl f))) := h.put 2 _ rfl rfl
theorem wS_a3 {b : Nat} {F : xS} {A : xx_H} (h : xx_w b (layS b F) A) (f : Nat → Int32) : xx_w b (layS b (a_up F 3 f)) (xx_up A (b + 3) (.inl (0, 12, .inl f))) := h.put 3 _ rfl rfl
theorem wS_a4 {b : Nat} {F : xS} {A : xx_H} (h : xx_w b (layS b F) A) (f : Nat → Int32) : xx_w b (layS b (a_up F 4 f)) (xx_up A (b + 4) (.inl (0, 12, .inl f))) := h.put 4 _ rfl rfl
theorem wS_a5 {b : Nat} {F : xS} {A : xx_H} (h : xx_w b (layS b F) A) (f : Nat → Int32) : xx_w b (layS b (a_up F 5 f)) (xx_up A (b + 5) (.inl (0, 12, .inl f))) := h.put 5 _ rfl rfl
theorem wS_a6 {b : Nat} {F : xS} {A : xx_H} (h : xx_w b (layS b F) A) (f : Nat → Int32) : xx_w b (layS b (a_up F 6 f)) (xx_up A (b + 6) (.inl (0, 12, .inl f))) := h.put 6 _ rfl rfl
theorem wS_a7 {b : Nat} {F : xS} {A : xx_H} (h : xx_w b (layS b F) A) (f : Nat → Int32) : xx_w b (layS b (a_up F 7 f)) (xx_up A (b + 7) (.inl (0, 12, .inl f))) := h.put 7 _ rfl rfl
theorem wS_a8 {b : Nat} {F : xS} {A : xx_H} (h : xx_w b (layS b F) A) (f : Nat → Int32) : xx_w b (layS b (a_up F 8 f)) (xx_up A (b + 8) (.inl (0, 12, .inl f))) := h.put 8 _ rfl rfl
theorem wS_a9 {b : Nat} {F : xS} {A : xx_H} (h : xx_w b (layS b F) A) (f : Nat → Int32) : xx_w b (layS b (a_up F 9 f)) (xx_up A (b + 9) (.inl (2, 12, .inl f))) := h.put 9 _ rfl rfl
theorem wS_a10 {b : Nat} {F : xS} {A : xx_H} (h : xx_w b (layS b F) A) (f : Nat → Int32) : xx_w b (layS b (a_up F 10 f)) (xx_up A (b + 10) (.inl (0, 144, .inl f))) := h.put 10 _ rfl rfl
theorem wS_a11 {b : Nat} {F : xS} {A : xx_H} (h : xx_w b (layS b F) A) (f : Nat → Int32) : xx_w b (layS b (a_up F 11 f)) (xx_up A (b + 11) (.inl (0, 6, .inl f))) := h.put 11 _ rfl rfl
theorem wS_a12 {b : Nat} {F : xS} {A : xx_H} (h : xx_w b (layS b F) A) (f : Nat → Int32) : xx_w b (layS b (a_up F 12 f)) (xx_up A (b + 12) (.inl (0, 6, .inl f))) := h.put 12 _ rfl rfl
theorem wS_a13 {b : Nat} {F : xS} {A : xx_H} (h : xx_w b (layS b F) A) (f : Nat → Int32) : xx_w b (layS b (a_up F 13 f)) (xx_up A (b + 13) (.inl (0, 6, .inl f))) := h.put 13 _ rfl rfl
def layN (nl : Nat → Int64) (b : Nat) (F : xS) : List (Nat × va_E) := [(0, .inr (6, [.int (F.1 0), .ref (b + 1), .ref (b + 2), .ref (b + 3), .int (F.1 4), .ref (b + 4), .ref (b + 5), .ref (b + 6), .ref (b + 7), .ref (b + 8), .int (F.1 10)])), (1, .inl (3, 12, .inr (.inl nl))), (2, .inl (0, 12, .inl (F.2 2))), (3, .inl (0, 3, .inl (F.2 3))), (4, .inl (0, 16, .inl (F.2 4))), (5, .inl (0, 16, .inl (F.2 5))), (6, .inl (0, 16, .inl (F.2 6))), (7, .inl (0, 800, .inl (F.2 7))), (8, .inl (0, 800, .inl (F.2 8)))]
theorem wN_s0_0 {nl : Nat → Int64} {b : Nat} {F : xS} {A : xx_H} (h : xx_w b (layN nl b F) A) (x : Int32) : xx_w b (layN nl b (s_up F 0 x)) (xx_up A (b + 0) (.inr (6, [Value.int (F.1 0), .ref (b + 1), .ref (b + 2), .ref (b + 3), .int (F.1 4), .ref (b + 4), .ref (b + 5), .ref (b + 6), .ref (b + 7), .ref (b + 8), .int (F.1 10)].set 0 (.int x)))) := h.put 0 _ rfl rfl
theorem wN_s0_4 {nl : Nat → Int64} {b : Nat} {F : xS} {A : xx_H} (h : xx_w b (layN nl b F) A) (x : Int32) : xx_w b (layN nl b (s_up F 4 x)) (xx_up A (b + 0) (.inr (6, [Value.int (F.1 0), .ref (b + 1), .ref (b + 2), .ref (b + 3), .int (F.1 4), .ref (b + 4), .ref (b + 5), .ref (b + 6), .ref (b + 7), .ref (b + 8), .int (F.1 10)].set 4 (.int x)))) := h.put 0 _ rfl rfl
theorem wN_s0_10 {nl : Nat → Int64} {b : Nat} {F : xS} {A : xx_H} (h : xx_w b (layN nl b F) A) (x : Int32) : xx_w b (layN nl b (s_up F 10 x)) (xx_up A (b + 0) (.inr (6, [Value.int (F.1 0), .ref (b + 1), .ref (b + 2), .ref (b + 3), .int (F.1 4), .ref (b + 4), .ref (b + 5), .ref (b + 6), .ref (b + 7), .ref (b + 8), .int (F.1 10)].set 10 (.int x)))) := h.put 0 _ rfl rfl
theorem wN_a1 {nl : Nat → Int64} {b : Nat} {F : xS} {A : xx_H} (h : xx_w b (layN nl b F) A) (f : Nat → Int64) : xx_w b (layN f b F) (xx_up A (b + 1) (.inl (3, 12, .inr (.inl f)))) := h.put 1 _ rfl rfl
theorem wN_a2 {nl : Nat → Int64} {b : Nat} {F : xS} {A : xx_H} (h : xx_w b (layN nl b F) A) (f : Nat → Int32) : xx_w b (layN nl b (a_up F 2 f)) (xx_up A (b + 2) (.inl (0, 12, .inl f))) := h.put 2 _ rfl rfl
theorem wN_a3 {nl : Nat → Int64} {b : Nat} {F : xS} {A : xx_H} (h : xx_w b (layN nl b F) A) (f : Nat → Int32) : xx_w b (layN nl b (a_up F 3 f)) (xx_up A (b + 3) (.inl (0, 3, .inl f))) := h.put 3 _ rfl rfl
theorem wN_a4 {nl : Nat → Int64} {b : Nat} {F : xS} {A : xx_H} (h : xx_w b (layN nl b F) A) (f : Nat → Int32) : xx_w b (layN nl b (a_up F 4 f)) (xx_up A (b + 4) (.inl (0, 16, .inl f))) := h.put 4 _ rfl rfl
theorem wN_a5 {nl : Nat → Int64} {b : Nat} {F : xS} {A : xx_H} (h : xx_w b (layN nl b F) A) (f : Nat → Int32) : xx_w b (layN nl b (a_up F 5 f)) (xx_up A (b + 5) (.inl (0, 16, .inl f))) := h.put 5 _ rfl rfl
theorem wN_a6 {nl : Nat → Int64} {b : Nat} {F : xS} {A : xx_H} (h : xx_w b (layN nl b F) A) (f : Nat → Int32) : xx_w b (layN nl b (a_up F 6 f)) (xx_up A (b + 6) (.inl (0, 16, .inl f))) := h.put 6 _ rfl rfl
theorem wN_a7 {nl : Nat → Int64} {b : Nat} {F : xS} {A : xx_H} (h : xx_w b (layN nl b F) A) (f : Nat → Int32) : xx_w b (layN nl b (a_up F 7 f)) (xx_up A (b + 7) (.inl (0, 800, .inl f))) := h.put 7 _ rfl rfl
theorem wN_a8 {nl : Nat → Int64} {b : Nat} {F : xS} {A : xx_H} (h : xx_w b (layN nl b F) A) (f : Nat → Int32) : xx_w b (layN nl b (a_up F 8 f)) (xx_up A (b + 8) (.inl (0, 800, .inl f))) := h.put 8 _ rfl rfl
def layM (bp : Nat) (vL : Nat → Int64) (bn : Nat) (ba : Nat) (b : Nat) (F : xS) : List (Nat × va_E) := [(0, .inr (8, [.int (F.1 0), .ref (b + 1), .int (F.1 2), .int (F.1 3), .ref (bp), .ref (b + 11), .ref (b + 12), .ref (b + 13), .ref (b + 14), .int (F.1 9), .int (F.1 10), .ref (bn), .ref (ba), .ref (b + 43), .int (F.1 14), .int (F.1 15), .ref (b + 44), .ref (b + 45), .ref (b + 46), .ref (b + 47), .int (F.1 20), .int (F.1 21)])), (1, .inl (0, 2000, .inl (F.2 1))), (11, .inl (0, 401, .inl (F.2 11))), (12, .inl (0, 401, .inl (F.2 12))), (13, .inl (0, 401, .inl (F.2 13))), (14, .inl (3, 401, .inr (.inl vL))), (43, .inl (0, 12, .inl (F.2 43))), (44, .inl (0, 4096, .inl (F.2 44))), (45, .inl (0, 6, .inl (F.2 45))), (46, .inl (0, 6, .inl (F.2 46))), (47, .inl (0, 800, .inl (F.2 47)))]
theorem wM_s0_0 {bp : Nat} {vL : Nat → Int64} {bn : Nat} {ba : Nat} {b : Nat} {F : xS} {A : xx_H} (h : xx_w b (layM bp vL bn ba b F) A) (x : Int32) : xx_w b (layM bp vL bn ba b (s_up F 0 x)) (xx_up A (b + 0) (.inr (8, [Value.int (F.1 0), .ref (b + 1), .int (F.1 2), .int (F.1 3), .ref (bp), .ref (b + 11), .ref (b + 12), .ref (b + 13), .ref (b + 14), .int (F.1 9), .int (F.1 10), .ref (bn), .ref (ba), .ref (b + 43), .int (F.1 14), .int (F.1 15), .ref (b + 44), .ref (b + 45), .ref (b + 46), .ref (b + 47), .int (F.1 20), .int (F.1 21)].set 0 (.int x)))) := h.put 0 _ rfl rfl
theorem wM_s0_2 {bp : Nat} {vL : Nat → Int64} {bn : Nat} {ba : Nat} {b : Nat} {F : xS} {A : xx_H} (h : xx_w b (layM bp vL bn ba b F) A) (x : Int32) : xx_w b (layM bp vL bn ba b (s_up F 2 x)) (xx_up A (b + 0) (.inr (8, [Value.int (F.1 0), .ref (b + 1), .int (F.1 2), .int (F.1 3), .ref (bp), .ref (b + 11), .ref (b + 12), .ref (b + 13), .ref (b + 14), .int (F.1 9), .int (F.1 10), .ref (bn), .ref (ba), .ref (b + 43), .int (F.1 14), .int (F.1 15), .ref (b + 44), .ref (b + 45), .ref (b + 46), .ref (b + 47), .int (F.1 20), .int (F.1 21)].set 2 (.int x)))) := h.put 0 _ rfl rfl
theorem wM_s0_3 {bp : Nat} {vL : Nat → Int64} {bn : Nat} {ba : Nat} {b : Nat} {F : xS} {A : xx_H} (h : xx_w b (layM bp vL bn ba b F) A) (x : Int32) : xx_w b (layM bp vL bn ba b (s_up F 3 x)) (xx_up A (b + 0) (.inr (8, [Value.int (F.1 0), .ref (b + 1), .int (F.1 2), .int (F.1 3), .ref (bp), .ref (b + 11), .ref (b + 12), .ref (b + 13), .ref (b + 14), .int (F.1 9), .int (F.1 10), .ref (bn), .ref (ba), .ref (b + 43), .int (F.1 14), .int (F.1 15), .ref (b + 44), .ref (b + 45), .ref (b + 46), .ref (b + 47), .int (F.1 20), .int (F.1 21)].set 3 (.int x)))) := h.put 0 _ rfl rfl
theorem wM_s0_4 {bp : Nat} {vL : Nat → Int64} {bn : Nat} {ba : Nat} {b : Nat} {F : xS} {A : xx_H} (h : xx_w b (layM bp vL bn ba b F) A) (x : Nat) : xx_w b (layM x vL bn ba b F) (xx_up A (b + 0) (.inr (8, [Value.int (F.1 0), .ref (b + 1), .int (F.1 2), .int (F.1 3), .ref (bp), .ref (b + 11), .ref (b + 12), .ref (b + 13), .ref (b + 14), .int (F.1 9), .int (F.1 10), .ref (bn), .ref (ba), .ref (b + 43), .int (F.1 14), .int (F.1 15), .ref (b + 44), .ref (b + 45), .ref (b + 46), .ref (b + 47), .int (F.1 20), .int (F.1 21)].set 4 (.ref x)))) := h.put 0 _ rfl rfl
theorem wM_s0_9 {bp : Nat} {vL : Nat → Int64} {bn : Nat} {ba : Nat} {b : Nat} {F : xS} {A : xx_H} (h : xx_w b (layM bp vL bn ba b F) A) (x : Int32) : xx_w b (layM bp vL bn ba b (s_up F 9 x)) (xx_up A (b + 0) (.inr (8, [Value.int (F.1 0), .ref (b + 1), .int (F.1 2), .int (F.1 3), .ref (bp), .ref (b + 11), .ref (b + 12), .ref (b + 13), .ref (b + 14), .int (F.1 9), .int (F.1 10), .ref (bn), .ref (ba), .ref (b + 43), .int (F.1 14), .int (F.1 15), .ref (b + 44), .ref (b + 45), .ref (b + 46), .ref (b + 47), .int (F.1 20), .int (F.1 21)].set 9 (.int x)))) := h.put 0 _ rfl rfl
theorem wM_s0_10 {bp : Nat} {vL : Nat → Int64} {bn : Nat} {ba : Nat} {b : Nat} {F : xS} {A : xx_H} (h : xx_w b (layM bp vL bn ba b F) A) (x : Int32) : xx_w b (layM bp vL bn ba b (s_up F 10 x)) (xx_up A (b + 0) (.inr (8, [Value.int (F.1 0), .ref (b + 1), .int (F.1 2), .int (F.1 3), .ref (bp), .ref (b + 11), .ref (b + 12), .ref (b + 13), .ref (b + 14), .int (F.1 9), .int (F.1 10), .ref (bn), .ref (ba), .ref (b + 43), .int (F.1 14), .int (F.1 15), .ref (b + 44), .ref (b + 45), .ref (b + 46), .ref (b + 47), .int (F.1 20), .int (F.1 21)].set 10 (.int x)))) := h.put 0 _ rfl rfl
theorem wM_s0_11 {bp : Nat} {vL : Nat → Int64} {bn : Nat} {ba : Nat} {b : Nat} {F : xS} {A : xx_H} (h : xx_w b (layM bp vL bn ba b F) A) (x : Nat) : xx_w b (layM bp vL x ba b F) (xx_up A (b + 0) (.inr (8, [Value.int (F.1 0), .ref (b + 1), .int (F.1 2), .int (F.1 3), .ref (bp), .ref (b + 11), .ref (b + 12), .ref (b + 13), .ref (b + 14), .int (F.1 9), .int (F.1 10), .ref (bn), .ref (ba), .ref (b + 43), .int (F.1 14), .int (F.1 15), .ref (b + 44), .ref (b + 45), .ref (b + 46), .ref (b + 47), .int (F.1 20), .int (F.1 21)].set 11 (.ref x)))) := h.put 0 _ rfl rfl
theorem wM_s0_14 {bp : Nat} {vL : Nat → Int64} {bn : Nat} {ba : Nat} {b : Nat} {F : xS} {A : xx_H} (h : xx_w b (layM bp vL bn ba b F) A) (x : Int32) : xx_w b (layM bp vL bn ba b (s_up F 14 x)) (xx_up A (b + 0) (.inr (8, [Value.int (F.1 0), .ref (b + 1), .int (F.1 2), .int (F.1 3), .ref (bp), .ref (b + 11), .ref (b + 12), .ref (b + 13), .ref (b + 14), .int (F.1 9), .int (F.1 10), .ref (bn), .ref (ba), .ref (b + 43), .int (F.1 14), .int (F.1 15), .ref (b + 44), .ref (b + 45), .ref (b + 46), .ref (b + 47), .int (F.1 20), .int (F.1 21)].set 14 (.int x)))) := h.put 0 _ rfl rfl
theorem wM_s0_15 {bp : Nat} {vL : Nat → Int64} {bn : Nat} {ba : Nat} {b : Nat} {F : xS} {A : xx_H} (h : xx_w b (layM bp vL bn ba b F) A) (x : Int32) : xx_w b (layM bp vL bn ba b (s_up F 15 x)) (xx_up A (b + 0) (.inr (8, [Value.int (F.1 0), .ref (b + 1), .int (F.1 2), .int (F.1 3), .ref (bp), .ref (b + 11), .ref (b + 12), .ref (b + 13), .ref (b + 14), .int (F.1 9), .int (F.1 10), .ref (bn), .ref (ba), .ref (b + 43), .int (F.1 14), .int (F.1 15), .ref (b + 44), .ref (b + 45), .ref (b + 46), .ref (b + 47), .int (F.1 20), .int (F.1 21)].set 15 (.int x)))) := h.put 0 _ rfl rfl
theorem wM_s0_20 {bp : Nat} {vL : Nat → Int64} {bn : Nat} {ba : Nat} {b : Nat} {F : xS} {A : xx_H} (h : xx_w b (layM bp vL bn ba b F) A) (x : Int32) : xx_w b (layM bp vL bn ba b (s_up F 20 x)) (xx_up A (b + 0) (.inr (8, [Value.int (F.1 0), .ref (b + 1), .int (F.1 2), .int (F.1 3), .ref (bp), .ref (b + 11), .ref (b + 12), .ref (b + 13), .ref (b + 14), .int (F.1 9), .int (F.1 10), .ref (bn), .ref (ba), .ref (b + 43), .int (F.1 14), .int (F.1 15), .ref (b + 44), .ref (b + 45), .ref (b + 46), .ref (b + 47), .int (F.1 20), .int (F.1 21)].set 20 (.int x)))) := h.put 0 _ rfl rfl
theorem wM_s0_21 {bp : Nat} {vL : Nat → Int64} {bn : Nat} {ba : Nat} {b : Nat} {F : xS} {A : xx_H} (h : xx_w b (layM bp vL bn ba b F) A) (x : Int32) : xx_w b (layM bp vL bn ba b (s_up F 21 x)) (xx_up A (b + 0) (.inr (8, [Value.int (F.1 0), .ref (b + 1), .int (F.1 2), .int (F.1 3), .ref (bp), .ref (b + 11), .ref (b + 12), .ref (b + 13), .ref (b + 14), .int (F.1 9), .int (F.1 10), .ref (bn), .ref (ba), .ref (b + 43), .int (F.1 14), .int (F.1 15), .ref (b + 44), .ref (b + 45), .ref (b + 46), .ref (b + 47), .int (F.1 20), .int (F.1 21)].set 21 (.int x)))) := h.put 0 _ rfl rfl
theorem wM_a1 {bp : Nat} {vL : Nat → Int64} {bn : Nat} {ba : Nat} {b : Nat} {F : xS} {A : xx_H} (h : xx_w b (layM bp vL bn ba b F) A) (f : Nat → Int32) : xx_w b (layM bp vL bn ba b (a_up F 1 f)) (xx_up A (b + 1) (.inl (0, 2000, .inl f))) := h.put 1 _ rfl rfl
theorem wM_a11 {bp : Nat} {vL : Nat → Int64} {bn : Nat} {ba : Nat} {b : Nat} {F : xS} {A : xx_H} (h : xx_w b (layM bp vL bn ba b F) A) (f : Nat → Int32) : xx_w b (layM bp vL bn ba b (a_up F 11 f)) (xx_up A (b + 11) (.inl (0, 401, .inl f))) := h.put 2 _ rfl rfl
theorem wM_a12 {bp : Nat} {vL : Nat → Int64} {bn : Nat} {ba : Nat} {b : Nat} {F : xS} {A : xx_H} (h : xx_w b (layM bp vL bn ba b F) A) (f : Nat → Int32) : xx_w b (layM bp vL bn ba b (a_up F 12 f)) (xx_up A (b + 12) (.inl (0, 401, .inl f))) := h.put 3 _ rfl rfl
theorem wM_a13 {bp : Nat} {vL : Nat → Int64} {bn : Nat} {ba : Nat} {b : Nat} {F : xS} {A : xx_H} (h : xx_w b (layM bp vL bn ba b F) A) (f : Nat → Int32) : xx_w b (layM bp vL bn ba b (a_up F 13 f)) (xx_up A (b + 13) (.inl (0, 401, .inl f))) := h.put 4 _ rfl rfl
theorem wM_a14 {bp : Nat} {vL : Nat → Int64} {bn : Nat} {ba : Nat} {b : Nat} {F : xS} {A : xx_H} (h : xx_w b (layM bp vL bn ba b F) A) (f : Nat → Int64) : xx_w b (layM bp f bn ba b F) (xx_up A (b + 14) (.inl (3, 401, .inr (.inl f)))) := h.put 5 _ rfl rfl
theorem wM_a43 {bp : Nat} {vL : Nat → Int64} {bn : Nat} {ba : Nat} {b : Nat} {F : xS} {A : xx_H} (h : xx_w b (layM bp vL bn ba b F) A) (f : Nat → Int32) : xx_w b (layM bp vL bn ba b (a_up F 43 f)) (xx_up A (b + 43) (.inl (0, 12, .inl f))) := h.put 6 _ rfl rfl
theorem wM_a44 {bp : Nat} {vL : Nat → Int64} {bn : Nat} {ba : Nat} {b : Nat} {F : xS} {A : xx_H} (h : xx_w b (layM bp vL bn ba b F) A) (f : Nat → Int32) : xx_w b (layM bp vL bn ba b (a_up F 44 f)) (xx_up A (b + 44) (.inl (0, 4096, .inl f))) := h.put 7 _ rfl rfl
theorem wM_a45 {bp : Nat} {vL : Nat → Int64} {bn : Nat} {ba : Nat} {b : Nat} {F : xS} {A : xx_H} (h : xx_w b (layM bp vL bn ba b F) A) (f : Nat → Int32) : xx_w b (layM bp vL bn ba b (a_up F 45 f)) (xx_up A (b + 45) (.inl (0, 6, .inl f))) := h.put 8 _ rfl rfl
theorem wM_a46 {bp : Nat} {vL : Nat → Int64} {bn : Nat} {ba : Nat} {b : Nat} {F : xS} {A : xx_H} (h : xx_w b (layM bp vL bn ba b F) A) (f : Nat → Int32) : xx_w b (layM bp vL bn ba b (a_up F 46 f)) (xx_up A (b + 46) (.inl (0, 6, .inl f))) := h.put 9 _ rfl rfl
theorem wM_a47 {bp : Nat} {vL : Nat → Int64} {bn : Nat} {ba : Nat} {b : Nat} {F : xS} {A : xx_H} (h : xx_w b (layM bp vL bn ba b F) A) (f : Nat → Int32) : xx_w b (layM bp vL bn ba b (a_up F 47 f)) (xx_up A (b + 47) (.inl (0, 800, .inl f))) := h.put 10 _ rfl rfl
theorem xx_w.up {b q m : Nat} {cs : List (Nat × va_E)} {A : xx_H} {c : va_E} (h : xx_w b cs A) (hb : (cs.map Prod.fst).all (fun z => decide (z < m)) = true) (hd : q < b ∨ b + m ≤ q) : xx_w b cs (xx_up A q c) := h.o2 (fun _ hz => xx_up_n _ _ hz) hb hd
theorem xx_w_nil {b : Nat} {A : xx_H} : xx_w b [] A := fun _ _ _ h => nomatch h
theorem xx_w_cons {b o : Nat} {e : va_E} {cs : List (Nat × va_E)} {A : xx_H} (h : A (b + o) = some e) (hs : xx_w b cs A) : xx_w b ((o, e) :: cs) A := fun i o' e' he => by
  cases i with
  | zero => cases he; exact h
  | succ i => exact hs i o' e' he
abbrev x0 : xS := (fun _ => 0, fun _ _ => 0)
/-- behind a constructor: m cells from b on -/
def ctQ (b m : Nat) (A : xx_H) (W : xx_H → Prop) : xx_Q := fun r A' n' => r = .inl none ∧ n' = b + m ∧ (∀ z, z < b → A' z = A z) ∧ W A'
variable {G : xx_G} {l : Launch} {A : xx_H} {b : Nat}
theorem xx_w.below {b b1 m : Nat} {cs : List (Nat × va_E)} {A' A0 Ax : xx_H} (h0 : xx_w b cs Ax) (o : ∀ z, z < b1 → A' z = A0 z) (h : xx_w b cs A0) (hb : (cs.map Prod.fst).all (fun z => decide (z < m)) = true) (hd : b + m ≤ b1) : xx_w b cs A' := fun i z e he => by
  have hz := List.all_eq_true.mp hb z (List.mem_map.mpr ⟨_, List.mem_of_getElem? he, rfl⟩)
  have hz := of_decide_eq_true hz
  rw [o _ (by omega)]
  exact h i z e he
set_option maxRecDepth 100000 in
set_option maxHeartbeats 8000000 in
theorem c_X5_init (hst : l.stackTraces = false) (hA : A b = some (.inr (4, [.null, .int 0, .null, .null, .null, .int 0]))) : xx_D G l yX5_init mX5_init 1 20 4 3203 [.ref b] A (b + 1) (ctQ b 5 A (fun A' => xx_w b (layT (fun _ => none) b x0) A')) := by
  refine J_D hst (by decide +kernel) rfl rfl rfl (Nat.le_of_ble_eq_true rfl) (fun E A n h => nomatch h.1) ?_
  show xx_J _ _ _ _ _ _ _ _ 0 [(0, _)] [] _ _ _ _
  refine J_aload_n dX5_init_0 rfl rfl ?_
  refine J_objInit dX5_init_1 ml_X5_3 im_objectInit co_objectInit ⟨by decide, by decide⟩ ?_
  refine J_aload_n dX5_init_4 rfl rfl ?_
  refine J_sipush (v := 2000) dX5_init_5 (by decide) ?_
  refine J_newb (N := 2000) dX5_init_8 ac_byte (by decide) (by decide) (by decide) (Nat.le_of_ble_eq_true rfl) (Nat.le_of_ble_eq_true rfl) ?_
  refine J_putF dX5_init_10 rfl ff_X5_9 (fun _ => ⟨rfl, rfl⟩) ((xx_up_n _ _ (by omega)).trans hA) (Nat.le_of_ble_eq_true rfl) ?_
  refine J_aload_n dX5_init_13 rfl rfl ?_
  refine J_iconst (v := 0) dX5_init_14 (by decide) ?_
  refine J_putf dX5_init_15 fp_X5_15 (fun _ => ⟨rfl, rfl⟩) (xx_up_s _ _ _) (Nat.le_of_ble_eq_true rfl) ?_
  refine J_aload_n dX5_init_18 rfl rfl ?_
  refine J_sipush (v := 401) dX5_init_19 (by decide) ?_
  refine J_newq (N := 401) dX5_init_22 cl_X5_19 (by decide) (by decide) (by decide) (Nat.le_of_ble_eq_true rfl) (Nat.le_of_ble_eq_true rfl) ?_
  refine J_putF dX5_init_25 rfl ff_X5_21 (fun _ => ⟨rfl, rfl⟩) ((xx_up_n _ _ (by omega)).trans (xx_up_s _ _ _)) (Nat.le_of_ble_eq_true rfl) ?_
  refine J_aload_n dX5_init_28 rfl rfl ?_
  refine J_sipush (v := 401) dX5_init_29 (by decide) ?_
  refine J_newi (N := 401) dX5_init_32 ac_int (by decide) (by decide) (by decide) (Nat.le_of_ble_eq_true rfl) (Nat.le_of_ble_eq_true rfl) ?_
  refine J_putF dX5_init_34 rfl ff_X5_25 (fun _ => ⟨rfl, rfl⟩) ((xx_up_n _ _ (by omega)).trans (xx_up_s _ _ _)) (Nat.le_of_ble_eq_true rfl) ?_
  refine J_aload_n dX5_init_37 rfl rfl ?_
  refine J_sipush (v := 401) dX5_init_38 (by decide) ?_
  refine J_newi (N := 401) dX5_init_41 ac_int (by decide) (by decide) (by decide) (Nat.le_of_ble_eq_true rfl) (Nat.le_of_ble_eq_true rfl) ?_
  refine J_putF dX5_init_43 rfl ff_X5_29 (fun _ => ⟨rfl, rfl⟩) ((xx_up_n _ _ (by omega)).trans (xx_up_s _ _ _)) (Nat.le_of_ble_eq_true rfl) ?_
  refine J_aload_n dX5_init_46 rfl rfl ?_
  refine J_iconst (v := 0) dX5_init_47 (by decide) ?_
  refine J_putf dX5_init_48 fp_X5_32 (fun _ => ⟨rfl, rfl⟩) (xx_up_s _ _ _) (Nat.le_of_ble_eq_true rfl) ?_
  refine J_return dX5_init_51 rfl (Nat.le_of_ble_eq_true rfl) (Nat.le_of_ble_eq_true rfl) ?_
  refine ⟨rfl, rfl, fun z hz => ?_, ?_⟩
  · repeat rw [xx_up_n _ _ (by omega)]
  · show xx_w b (layT (fun _ => none) b x0) _
    refine xx_w_cons ?_ (xx_w_cons ?_ (xx_w_cons ?_ (xx_w_cons ?_ (xx_w_cons ?_ xx_w_nil)))) <;> first | rfl | (simp [xx_up]; done) | (simp [xx_up]; repeat' (first | rfl | constructor))
set_option maxRecDepth 100000 in
set_option maxHeartbeats 8000000 in
theorem c_X3_init (hst : l.stackTraces = false) (hA : A b = some (.inr (3, [.int 0, .null, .null, .int 0, .null, .null, .int 0, .null]))) : xx_D G l yX3_init mX3_init 1 20 5 1232 [.ref b] A (b + 1) (ctQ b 6 A (fun A' => xx_w b (layR b x0) A')) := by
  refine J_D hst (by decide +kernel) rfl rfl rfl (Nat.le_of_ble_eq_true rfl) (fun E A n h => nomatch h.1) ?_
  show xx_J _ _ _ _ _ _ _ _ 0 [(0, _)] [] _ _ _ _
  refine J_aload_n dX3_init_0 rfl rfl ?_
  refine J_objInit dX3_init_1 ml_X3_3 im_objectInit co_objectInit ⟨by decide, by decide⟩ ?_
  refine J_aload_n dX3_init_4 rfl rfl ?_
  refine J_iconst (v := 0) dX3_init_5 (by decide) ?_
  refine J_putf dX3_init_6 fp_X3_9 (fun _ => ⟨rfl, rfl⟩) hA (Nat.le_of_ble_eq_true rfl) ?_
  refine J_aload_n dX3_init_9 rfl rfl ?_
  refine J_bipush (v := 16) dX3_init_10 (by decide) ?_
  refine J_newi (N := 16) dX3_init_12 ac_int (by decide) (by decide) (by decide) (Nat.le_of_ble_eq_true rfl) (Nat.le_of_ble_eq_true rfl) ?_
  refine J_putF dX3_init_14 rfl ff_X3_15 (fun _ => ⟨rfl, rfl⟩) ((xx_up_n _ _ (by omega)).trans (xx_up_s _ _ _)) (Nat.le_of_ble_eq_true rfl) ?_
  refine J_aload_n dX3_init_17 rfl rfl ?_
  refine J_bipush (v := 16) dX3_init_18 (by decide) ?_
  refine J_newi (N := 16) dX3_init_20 ac_int (by decide) (by decide) (by decide) (Nat.le_of_ble_eq_true rfl) (Nat.le_of_ble_eq_true rfl) ?_
  refine J_putF dX3_init_22 rfl ff_X3_19 (fun _ => ⟨rfl, rfl⟩) ((xx_up_n _ _ (by omega)).trans (xx_up_s _ _ _)) (Nat.le_of_ble_eq_true rfl) ?_
  refine J_aload_n dX3_init_25 rfl rfl ?_
  refine J_iconst (v := 0) dX3_init_26 (by decide) ?_
  refine J_putf dX3_init_27 fp_X3_22 (fun _ => ⟨rfl, rfl⟩) (xx_up_s _ _ _) (Nat.le_of_ble_eq_true rfl) ?_
  refine J_aload_n dX3_init_30 rfl rfl ?_
  refine J_sipush (v := 400) dX3_init_31 (by decide) ?_
  refine J_newi (N := 400) dX3_init_34 ac_int (by decide) (by decide) (by decide) (Nat.le_of_ble_eq_true rfl) (Nat.le_of_ble_eq_true rfl) ?_
  refine J_putF dX3_init_36 rfl ff_X3_25 (fun _ => ⟨rfl, rfl⟩) ((xx_up_n _ _ (by omega)).trans (xx_up_s _ _ _)) (Nat.le_of_ble_eq_true rfl) ?_
  refine J_aload_n dX3_init_39 rfl rfl ?_
  refine J_sipush (v := 400) dX3_init_40 (by decide) ?_
  refine J_newi (N := 400) dX3_init_43 ac_int (by decide) (by decide) (by decide) (Nat.le_of_ble_eq_true rfl) (Nat.le_of_ble_eq_true rfl) ?_
  refine J_putF dX3_init_45 rfl ff_X3_28 (fun _ => ⟨rfl, rfl⟩) ((xx_up_n _ _ (by omega)).trans (xx_up_s _ _ _)) (Nat.le_of_ble_eq_true rfl) ?_
  refine J_aload_n dX3_init_48 rfl rfl ?_
  refine J_iconst (v := 0) dX3_init_49 (by decide) ?_
  refine J_putf dX3_init_50 fp_X3_31 (fun _ => ⟨rfl, rfl⟩) (xx_up_s _ _ _) (Nat.le_of_ble_eq_true rfl) ?_
  refine J_aload_n dX3_init_53 rfl rfl ?_
  refine J_sipush (v := 400) dX3_init_54 (by decide) ?_
  refine J_newi (N := 400) dX3_init_57 ac_int (by decide) (by decide) (by decide) (Nat.le_of_ble_eq_true rfl) (Nat.le_of_ble_eq_true rfl) ?_
  refine J_putF dX3_init_59 rfl ff_X3_34 (fun _ => ⟨rfl, rfl⟩) ((xx_up_n _ _ (by omega)).trans (xx_up_s _ _ _)) (Nat.le_of_ble_eq_true rfl) ?_
  refine J_return dX3_init_62 rfl (Nat.le_of_ble_eq_true rfl) (Nat.le_of_ble_eq_true rfl) ?_
  refine ⟨rfl, rfl, fun z hz => ?_, ?_⟩
  · repeat rw [xx_up_n _ _ (by omega)]
  · show xx_w b (layR b x0) _
    refine xx_w_cons ?_ (xx_w_cons ?_ (xx_w_cons ?_ (xx_w_cons ?_ (xx_w_cons ?_ (xx_w_cons ?_ xx_w_nil))))) <;> first | rfl | (simp [xx_up]; done) | (simp [xx_up]; repeat' (first | rfl | constructor))
set_option maxRecDepth 100000 in
set_option maxHeartbeats 8000000 in
theorem c_X0_init (hst : l.stackTraces = false) (hA : A b = some (.inr (0, [.int 0, .int 0, .null, .null, .null, .int 0, .null, .null, .null, .int 0, .null, .null]))) : xx_D G l yX0_init mX0_init 1 20 8 309 [.ref b] A (b + 1) (ctQ b 9 A (fun A' => xx_w b (layF b (s_up x0 9 (-1))) A')) := by
  refine J_D hst (by decide +kernel) rfl rfl rfl (Nat.le_of_ble_eq_true rfl) (fun E A n h => nomatch h.1) ?_
  show xx_J _ _ _ _ _ _ _ _ 0 [(0, _)] [] _ _ _ _
  refine J_aload_n dX0_init_0 rfl rfl ?_
  refine J_objInit dX0_init_1 ml_X0_3 im_objectInit co_objectInit ⟨by decide, by decide⟩ ?_
  refine J_aload_n dX0_init_4 rfl rfl ?_
  refine J_iconst (v := 0) dX0_init_5 (by decide) ?_
  refine J_putf dX0_init_6 fp_X0_9 (fun _ => ⟨rfl, rfl⟩) hA (Nat.le_of_ble_eq_true rfl) ?_
  refine J_aload_n dX0_init_9 rfl rfl ?_
  refine J_iconst (v := 0) dX0_init_10 (by decide) ?_
  refine J_putf dX0_init_11 fp_X0_15 (fun _ => ⟨rfl, rfl⟩) (xx_up_s _ _ _) (Nat.le_of_ble_eq_true rfl) ?_
  refine J_aload_n dX0_init_14 rfl rfl ?_
  refine J_iconst (v := 3) dX0_init_15 (by decide) ?_
  refine J_newi (N := 3) dX0_init_16 ac_int (by decide) (by decide) (by decide) (Nat.le_of_ble_eq_true rfl) (Nat.le_of_ble_eq_true rfl) ?_
  refine J_putF dX0_init_18 rfl ff_X0_18 (fun _ => ⟨rfl, rfl⟩) ((xx_up_n _ _ (by omega)).trans (xx_up_s _ _ _)) (Nat.le_of_ble_eq_true rfl) ?_
  refine J_aload_n dX0_init_21 rfl rfl ?_
  refine J_bipush (v := 120) dX0_init_22 (by decide) ?_
  refine J_newi (N := 120) dX0_init_24 ac_int (by decide) (by decide) (by decide) (Nat.le_of_ble_eq_true rfl) (Nat.le_of_ble_eq_true rfl) ?_
  refine J_putF dX0_init_26 rfl ff_X0_22 (fun _ => ⟨rfl, rfl⟩) ((xx_up_n _ _ (by omega)).trans (xx_up_s _ _ _)) (Nat.le_of_ble_eq_true rfl) ?_
  refine J_aload_n dX0_init_29 rfl rfl ?_
  refine J_sipush (v := 144) dX0_init_30 (by decide) ?_
  refine J_newi (N := 144) dX0_init_33 ac_int (by decide) (by decide) (by decide) (Nat.le_of_ble_eq_true rfl) (Nat.le_of_ble_eq_true rfl) ?_
  refine J_putF dX0_init_35 rfl ff_X0_25 (fun _ => ⟨rfl, rfl⟩) ((xx_up_n _ _ (by omega)).trans (xx_up_s _ _ _)) (Nat.le_of_ble_eq_true rfl) ?_
  refine J_aload_n dX0_init_38 rfl rfl ?_
  refine J_iconst (v := 0) dX0_init_39 (by decide) ?_
  refine J_putf dX0_init_40 fp_X0_28 (fun _ => ⟨rfl, rfl⟩) (xx_up_s _ _ _) (Nat.le_of_ble_eq_true rfl) ?_
  refine J_aload_n dX0_init_43 rfl rfl ?_
  refine J_bipush (v := 6) dX0_init_44 (by decide) ?_
  refine J_newi (N := 6) dX0_init_46 ac_int (by decide) (by decide) (by decide) (Nat.le_of_ble_eq_true rfl) (Nat.le_of_ble_eq_true rfl) ?_
  refine J_putF dX0_init_48 rfl ff_X0_31 (fun _ => ⟨rfl, rfl⟩) ((xx_up_n _ _ (by omega)).trans (xx_up_s _ _ _)) (Nat.le_of_ble_eq_true rfl) ?_
  refine J_aload_n dX0_init_51 rfl rfl ?_
  refine J_bipush (v := 6) dX0_init_52 (by decide) ?_
  refine J_newi (N := 6) dX0_init_54 ac_int (by decide) (by decide) (by decide) (Nat.le_of_ble_eq_true rfl) (Nat.le_of_ble_eq_true rfl) ?_
  refine J_putF dX0_init_56 rfl ff_X0_34 (fun _ => ⟨rfl, rfl⟩) ((xx_up_n _ _ (by omega)).trans (xx_up_s _ _ _)) (Nat.le_of_ble_eq_true rfl) ?_
  refine J_aload_n dX0_init_59 rfl rfl ?_
  refine J_bipush (v := 6) dX0_init_60 (by decide) ?_
  refine J_newi (N := 6) dX0_init_62 ac_int (by decide) (by decide) (by decide) (Nat.le_of_ble_eq_true rfl) (Nat.le_of_ble_eq_true rfl) ?_
  refine J_putF dX0_init_64 rfl ff_X0_37 (fun _ => ⟨rfl, rfl⟩) ((xx_up_n _ _ (by omega)).trans (xx_up_s _ _ _)) (Nat.le_of_ble_eq_true rfl) ?_
  refine J_aload_n dX0_init_67 rfl rfl ?_
  refine J_iconst (v := -1) dX0_init_68 (by decide) ?_
  refine J_putf dX0_init_69 fp_X0_40 (fun _ => ⟨rfl, rfl⟩) (xx_up_s _ _ _) (Nat.le_of_ble_eq_true rfl) ?_
  refine J_aload_n dX0_init_72 rfl rfl ?_
  refine J_bipush (v := 12) dX0_init_73 (by decide) ?_
  refine J_newi (N := 12) dX0_init_75 ac_int (by decide) (by decide) (by decide) (Nat.le_of_ble_eq_true rfl) (Nat.le_of_ble_eq_true rfl) ?_
  refine J_putF dX0_init_77 rfl ff_X0_43 (fun _ => ⟨rfl, rfl⟩) ((xx_up_n _ _ (by omega)).trans (xx_up_s _ _ _)) (Nat.le_of_ble_eq_true rfl) ?_
  refine J_aload_n dX0_init_80 rfl rfl ?_
  refine J_bipush (v := 12) dX0_init_81 (by decide) ?_
  refine J_newi (N := 12) dX0_init_83 ac_int (by decide) (by decide) (by decide) (Nat.le_of_ble_eq_true rfl) (Nat.le_of_ble_eq_true rfl) ?_
  refine J_putF dX0_init_85 rfl ff_X0_46 (fun _ => ⟨rfl, rfl⟩) ((xx_up_n _ _ (by omega)).trans (xx_up_s _ _ _)) (Nat.le_of_ble_eq_true rfl) ?_
  refine J_return dX0_init_88 rfl (Nat.le_of_ble_eq_true rfl) (Nat.le_of_ble_eq_true rfl) ?_
  refine ⟨rfl, rfl, fun z hz => ?_, ?_⟩
  · repeat rw [xx_up_n _ _ (by omega)]
  · show xx_w b (layF b (s_up x0 9 (-1))) _
    refine xx_w_cons ?_ (xx_w_cons ?_ (xx_w_cons ?_ (xx_w_cons ?_ (xx_w_cons ?_ (xx_w_cons ?_ (xx_w_cons ?_ (xx_w_cons ?_ (xx_w_cons ?_ xx_w_nil)))))))) <;> first | rfl | (simp [xx_up]; done) | (simp [xx_up]; repeat' (first | rfl | constructor))
set_option maxRecDepth 100000 in
set_option maxHeartbeats 8000000 in
theorem c_X1_init (hst : l.stackTraces = false) (hA : A b = some (.inr (1, [.int 0, .int 0, .int 0, .null, .null, .int 0, .null, .null, .null]))) : xx_D G l yX1_init mX1_init 1 20 5 4132 [.ref b] A (b + 1) (ctQ b 6 A (fun A' => xx_w b (layP b (s_up x0 2 (-1))) A')) := by
  refine J_D hst (by decide +kernel) rfl rfl rfl (Nat.le_of_ble_eq_true rfl) (fun E A n h => nomatch h.1) ?_
  show xx_J _ _ _ _ _ _ _ _ 0 [(0, _)] [] _ _ _ _
  refine J_aload_n dX1_init_0 rfl rfl ?_
  refine J_objInit dX1_init_1 ml_X1_3 im_objectInit co_objectInit ⟨by decide, by decide⟩ ?_
  refine J_aload_n dX1_init_4 rfl rfl ?_
  refine J_iconst (v := 0) dX1_init_5 (by decide) ?_
  refine J_putf dX1_init_6 fp_X1_9 (fun _ => ⟨rfl, rfl⟩) hA (Nat.le_of_ble_eq_true rfl) ?_
  refine J_aload_n dX1_init_9 rfl rfl ?_
  refine J_iconst (v := 0) dX1_init_10 (by decide) ?_
  refine J_putf dX1_init_11 fp_X1_15 (fun _ => ⟨rfl, rfl⟩) (xx_up_s _ _ _) (Nat.le_of_ble_eq_true rfl) ?_
  refine J_aload_n dX1_init_14 rfl rfl ?_
  refine J_iconst (v := -1) dX1_init_15 (by decide) ?_
  refine J_putf dX1_init_16 fp_X1_18 (fun _ => ⟨rfl, rfl⟩) (xx_up_s _ _ _) (Nat.le_of_ble_eq_true rfl) ?_
  refine J_aload_n dX1_init_19 rfl rfl ?_
  refine J_bipush (v := 6) dX1_init_20 (by decide) ?_
  refine J_newi (N := 6) dX1_init_22 ac_int (by decide) (by decide) (by decide) (Nat.le_of_ble_eq_true rfl) (Nat.le_of_ble_eq_true rfl) ?_
  refine J_putF dX1_init_24 rfl ff_X1_21 (fun _ => ⟨rfl, rfl⟩) ((xx_up_n _ _ (by omega)).trans (xx_up_s _ _ _)) (Nat.le_of_ble_eq_true rfl) ?_
  refine J_aload_n dX1_init_27 rfl rfl ?_
  refine J_bipush (v := 6) dX1_init_28 (by decide) ?_
  refine J_newi (N := 6) dX1_init_30 ac_int (by decide) (by decide) (by decide) (Nat.le_of_ble_eq_true rfl) (Nat.le_of_ble_eq_true rfl) ?_
  refine J_putF dX1_init_32 rfl ff_X1_25 (fun _ => ⟨rfl, rfl⟩) ((xx_up_n _ _ (by omega)).trans (xx_up_s _ _ _)) (Nat.le_of_ble_eq_true rfl) ?_
  refine J_aload_n dX1_init_35 rfl rfl ?_
  refine J_iconst (v := 0) dX1_init_36 (by decide) ?_
  refine J_putf dX1_init_37 fp_X1_28 (fun _ => ⟨rfl, rfl⟩) (xx_up_s _ _ _) (Nat.le_of_ble_eq_true rfl) ?_
  refine J_aload_n dX1_init_40 rfl rfl ?_
  refine J_bipush (v := 12) dX1_init_41 (by decide) ?_
  refine J_newi (N := 12) dX1_init_43 ac_int (by decide) (by decide) (by decide) (Nat.le_of_ble_eq_true rfl) (Nat.le_of_ble_eq_true rfl) ?_
  refine J_putF dX1_init_45 rfl ff_X1_31 (fun _ => ⟨rfl, rfl⟩) ((xx_up_n _ _ (by omega)).trans (xx_up_s _ _ _)) (Nat.le_of_ble_eq_true rfl) ?_
  refine J_aload_n dX1_init_48 rfl rfl ?_
  refine J_bipush (v := 12) dX1_init_49 (by decide) ?_
  refine J_newi (N := 12) dX1_init_51 ac_int (by decide) (by decide) (by decide) (Nat.le_of_ble_eq_true rfl) (Nat.le_of_ble_eq_true rfl) ?_
  refine J_putF dX1_init_53 rfl ff_X1_34 (fun _ => ⟨rfl, rfl⟩) ((xx_up_n _ _ (by omega)).trans (xx_up_s _ _ _)) (Nat.le_of_ble_eq_true rfl) ?_
  refine J_aload_n dX1_init_56 rfl rfl ?_
  refine J_sipush (v := 4096) dX1_init_57 (by decide) ?_
  refine J_newi (N := 4096) dX1_init_60 ac_int (by decide) (by decide) (by decide) (Nat.le_of_ble_eq_true rfl) (Nat.le_of_ble_eq_true rfl) ?_
  refine J_putF dX1_init_62 rfl ff_X1_37 (fun _ => ⟨rfl, rfl⟩) ((xx_up_n _ _ (by omega)).trans (xx_up_s _ _ _)) (Nat.le_of_ble_eq_true rfl) ?_
  refine J_return dX1_init_65 rfl (Nat.le_of_ble_eq_true rfl) (Nat.le_of_ble_eq_true rfl) ?_
  refine ⟨rfl, rfl, fun z hz => ?_, ?_⟩
  · repeat rw [xx_up_n _ _ (by omega)]
  · show xx_w b (layP b (s_up x0 2 (-1))) _
    refine xx_w_cons ?_ (xx_w_cons ?_ (xx_w_cons ?_ (xx_w_cons ?_ (xx_w_cons ?_ (xx_w_cons ?_ xx_w_nil))))) <;> first | rfl | (simp [xx_up]; done) | (simp [xx_up]; repeat' (first | rfl | constructor))
set_option maxRecDepth 100000 in
set_option maxHeartbeats 8000000 in
theorem c_X8_init (hst : l.stackTraces = false) (hA : A b = some (.inr (7, [.int 0, .int 0, .int 0, .null, .null, .null, .null, .null, .null, .null, .null, .null, .null, .null, .null, .null]))) : xx_D G l yX8_init mX8_init 1 20 13 270 [.ref b] A (b + 1) (ctQ b 14 A (fun A' => xx_w b (layS b (s_up x0 2 (-1))) A')) := by
  refine J_D hst (by decide +kernel) rfl rfl rfl (Nat.le_of_ble_eq_true rfl) (fun E A n h => nomatch h.1) ?_
  show xx_J _ _ _ _ _ _ _ _ 0 [(0, _)] [] _ _ _ _
  refine J_aload_n dX8_init_0 rfl rfl ?_
  refine J_objInit dX8_init_1 ml_X8_3 im_objectInit co_objectInit ⟨by decide, by decide⟩ ?_
  refine J_aload_n dX8_init_4 rfl rfl ?_
  refine J_iconst (v := -1) dX8_init_5 (by decide) ?_
  refine J_putf dX8_init_6 fp_X8_9 (fun _ => ⟨rfl, rfl⟩) hA (Nat.le_of_ble_eq_true rfl) ?_
  refine J_aload_n dX8_init_9 rfl rfl ?_
  refine J_bipush (v := 12) dX8_init_10 (by decide) ?_
  refine J_newi (N := 12) dX8_init_12 ac_int (by decide) (by decide) (by decide) (Nat.le_of_ble_eq_true rfl) (Nat.le_of_ble_eq_true rfl) ?_
  refine J_putF dX8_init_14 rfl ff_X8_15 (fun _ => ⟨rfl, rfl⟩) ((xx_up_n _ _ (by omega)).trans (xx_up_s _ _ _)) (Nat.le_of_ble_eq_true rfl) ?_
  refine J_aload_n dX8_init_17 rfl rfl ?_
  refine J_bipush (v := 12) dX8_init_18 (by decide) ?_
  refine J_newi (N := 12) dX8_init_20 ac_int (by decide) (by decide) (by decide) (Nat.le_of_ble_eq_true rfl) (Nat.le_of_ble_eq_true rfl) ?_
  refine J_putF dX8_init_22 rfl ff_X8_19 (fun _ => ⟨rfl, rfl⟩) ((xx_up_n _ _ (by omega)).trans (xx_up_s _ _ _)) (Nat.le_of_ble_eq_true rfl) ?_
  refine J_aload_n dX8_init_25 rfl rfl ?_
  refine J_bipush (v := 12) dX8_init_26 (by decide) ?_
  refine J_newi (N := 12) dX8_init_28 ac_int (by decide) (by decide) (by decide) (Nat.le_of_ble_eq_true rfl) (Nat.le_of_ble_eq_true rfl) ?_
  refine J_putF dX8_init_30 rfl ff_X8_22 (fun _ => ⟨rfl, rfl⟩) ((xx_up_n _ _ (by omega)).trans (xx_up_s _ _ _)) (Nat.le_of_ble_eq_true rfl) ?_
  refine J_aload_n dX8_init_33 rfl rfl ?_
  refine J_bipush (v := 12) dX8_init_34 (by decide) ?_
  refine J_newi (N := 12) dX8_init_36 ac_int (by decide) (by decide) (by decide) (Nat.le_of_ble_eq_true rfl) (Nat.le_of_ble_eq_true rfl) ?_
  refine J_putF dX8_init_38 rfl ff_X8_25 (fun _ => ⟨rfl, rfl⟩) ((xx_up_n _ _ (by omega)).trans (xx_up_s _ _ _)) (Nat.le_of_ble_eq_true rfl) ?_
  refine J_aload_n dX8_init_41 rfl rfl ?_
  refine J_bipush (v := 12) dX8_init_42 (by decide) ?_
  refine J_newi (N := 12) dX8_init_44 ac_int (by decide) (by decide) (by decide) (Nat.le_of_ble_eq_true rfl) (Nat.le_of_ble_eq_true rfl) ?_
  refine J_putF dX8_init_46 rfl ff_X8_28 (fun _ => ⟨rfl, rfl⟩) ((xx_up_n _ _ (by omega)).trans (xx_up_s _ _ _)) (Nat.le_of_ble_eq_true rfl) ?_
  refine J_aload_n dX8_init_49 rfl rfl ?_
  refine J_bipush (v := 12) dX8_init_50 (by decide) ?_
  refine J_newi (N := 12) dX8_init_52 ac_int (by decide) (by decide) (by decide) (Nat.le_of_ble_eq_true rfl) (Nat.le_of_ble_eq_true rfl) ?_
  refine J_putF dX8_init_54 rfl ff_X8_31 (fun _ => ⟨rfl, rfl⟩) ((xx_up_n _ _ (by omega)).trans (xx_up_s _ _ _)) (Nat.le_of_ble_eq_true rfl) ?_
  refine J_aload_n dX8_init_57 rfl rfl ?_
  refine J_bipush (v := 12) dX8_init_58 (by decide) ?_
  refine J_newi (N := 12) dX8_init_60 ac_int (by decide) (by decide) (by decide) (Nat.le_of_ble_eq_true rfl) (Nat.le_of_ble_eq_true rfl) ?_
  refine J_putF dX8_init_62 rfl ff_X8_34 (fun _ => ⟨rfl, rfl⟩) ((xx_up_n _ _ (by omega)).trans (xx_up_s _ _ _)) (Nat.le_of_ble_eq_true rfl) ?_
  refine J_aload_n dX8_init_65 rfl rfl ?_
  refine J_bipush (v := 12) dX8_init_66 (by decide) ?_
  refine J_newi (N := 12) dX8_init_68 ac_int (by decide) (by decide) (by decide) (Nat.le_of_ble_eq_true rfl) (Nat.le_of_ble_eq_true rfl) ?_
  refine J_putF dX8_init_70 rfl ff_X8_37 (fun _ => ⟨rfl, rfl⟩) ((xx_up_n _ _ (by omega)).trans (xx_up_s _ _ _)) (Nat.le_of_ble_eq_true rfl) ?_
  refine J_aload_n dX8_init_73 rfl rfl ?_
  refine J_bipush (v := 12) dX8_init_74 (by decide) ?_
  refine J_newz (N := 12) dX8_init_76 ac_boolean (by decide) (by decide) (by decide) (Nat.le_of_ble_eq_true rfl) (Nat.le_of_ble_eq_true rfl) ?_
  refine J_putF dX8_init_78 rfl ff_X8_40 (fun _ => ⟨rfl, rfl⟩) ((xx_up_n _ _ (by omega)).trans (xx_up_s _ _ _)) (Nat.le_of_ble_eq_true rfl) ?_
  refine J_aload_n dX8_init_81 rfl rfl ?_
  refine J_sipush (v := 144) dX8_init_82 (by decide) ?_
  refine J_newi (N := 144) dX8_init_85 ac_int (by decide) (by decide) (by decide) (Nat.le_of_ble_eq_true rfl) (Nat.le_of_ble_eq_true rfl) ?_
  refine J_putF dX8_init_87 rfl ff_X8_44 (fun _ => ⟨rfl, rfl⟩) ((xx_up_n _ _ (by omega)).trans (xx_up_s _ _ _)) (Nat.le_of_ble_eq_true rfl) ?_
  refine J_aload_n dX8_init_90 rfl rfl ?_
  refine J_bipush (v := 6) dX8_init_91 (by decide) ?_
  refine J_newi (N := 6) dX8_init_93 ac_int (by decide) (by decide) (by decide) (Nat.le_of_ble_eq_true rfl) (Nat.le_of_ble_eq_true rfl) ?_
  refine J_putF dX8_init_95 rfl ff_X8_47 (fun _ => ⟨rfl, rfl⟩) ((xx_up_n _ _ (by omega)).trans (xx_up_s _ _ _)) (Nat.le_of_ble_eq_true rfl) ?_
  refine J_aload_n dX8_init_98 rfl rfl ?_
  refine J_bipush (v := 6) dX8_init_99 (by decide) ?_
  refine J_newi (N := 6) dX8_init_101 ac_int (by decide) (by decide) (by decide) (Nat.le_of_ble_eq_true rfl) (Nat.le_of_ble_eq_true rfl) ?_
  refine J_putF dX8_init_103 rfl ff_X8_50 (fun _ => ⟨rfl, rfl⟩) ((xx_up_n _ _ (by omega)).trans (xx_up_s _ _ _)) (Nat.le_of_ble_eq_true rfl) ?_
  refine J_aload_n dX8_init_106 rfl rfl ?_
  refine J_bipush (v := 6) dX8_init_107 (by decide) ?_
  refine J_newi (N := 6) dX8_init_109 ac_int (by decide) (by decide) (by decide) (Nat.le_of_ble_eq_true rfl) (Nat.le_of_ble_eq_true rfl) ?_
  refine J_putF dX8_init_111 rfl ff_X8_53 (fun _ => ⟨rfl, rfl⟩) ((xx_up_n _ _ (by omega)).trans (xx_up_s _ _ _)) (Nat.le_of_ble_eq_true rfl) ?_
  refine J_return dX8_init_114 rfl (Nat.le_of_ble_eq_true rfl) (Nat.le_of_ble_eq_true rfl) ?_
  refine ⟨rfl, rfl, fun z hz => ?_, ?_⟩
  · repeat rw [xx_up_n _ _ (by omega)]
  · show xx_w b (layS b (s_up x0 2 (-1))) _
    refine xx_w_cons ?_ (xx_w_cons ?_ (xx_w_cons ?_ (xx_w_cons ?_ (xx_w_cons ?_ (xx_w_cons ?_ (xx_w_cons ?_ (xx_w_cons ?_ (xx_w_cons ?_ (xx_w_cons ?_ (xx_w_cons ?_ (xx_w_cons ?_ (xx_w_cons ?_ (xx_w_cons ?_ xx_w_nil))))))))))))) <;> first | rfl | (simp [xx_up]; done) | (simp [xx_up]; repeat' (first | rfl | constructor))
def wo0 : Nat → Int32 := upd (upd (upd (fun _ => 0) 0 2) 1 1) 2 2
set_option maxRecDepth 100000 in
set_option maxHeartbeats 8000000 in
theorem c_X7_init (hst : l.stackTraces = false) (hA : A b = some (.inr (6, [.int 0, .null, .null, .null, .int 0, .null, .null, .null, .null, .null, .int 0]))) : xx_D G l yX7_init mX7_init 1 20 8 1675 [.ref b] A (b + 1) (ctQ b 9 A (fun A' => xx_w b (layN (fun _ => 0) b (a_up x0 3 wo0)) A')) := by
  refine J_D hst (by decide +kernel) rfl rfl rfl (Nat.le_of_ble_eq_true rfl) (fun E A n h => nomatch h.1) ?_
  show xx_J _ _ _ _ _ _ _ _ 0 [(0, _)] [] _ _ _ _
  refine J_aload_n dX7_init_0 rfl rfl ?_
  refine J_objInit dX7_init_1 ml_X7_3 im_objectInit co_objectInit ⟨by decide, by decide⟩ ?_
  refine J_aload_n dX7_init_4 rfl rfl ?_
  refine J_bipush (v := 12) dX7_init_5 (by decide) ?_
  refine J_newl (N := 12) dX7_init_7 ac_long (by decide) (by decide) (by decide) (Nat.le_of_ble_eq_true rfl) (Nat.le_of_ble_eq_true rfl) ?_
  refine J_putF dX7_init_9 rfl ff_X7_9 (fun _ => ⟨rfl, rfl⟩) ((xx_up_n _ _ (by omega)).trans hA) (Nat.le_of_ble_eq_true rfl) ?_
  refine J_aload_n dX7_init_12 rfl rfl ?_
  refine J_bipush (v := 12) dX7_init_13 (by decide) ?_
  refine J_newi (N := 12) dX7_init_15 ac_int (by decide) (by decide) (by decide) (Nat.le_of_ble_eq_true rfl) (Nat.le_of_ble_eq_true rfl) ?_
  refine J_putF dX7_init_17 rfl ff_X7_15 (fun _ => ⟨rfl, rfl⟩) ((xx_up_n _ _ (by omega)).trans (xx_up_s _ _ _)) (Nat.le_of_ble_eq_true rfl) ?_
  refine J_aload_n dX7_init_20 rfl rfl ?_
  refine J_iconst (v := 3) dX7_init_21 (by decide) ?_
  refine J_newi (N := 3) dX7_init_22 ac_int (by decide) (by decide) (by decide) (Nat.le_of_ble_eq_true rfl) (Nat.le_of_ble_eq_true rfl) ?_
  refine J_dup dX7_init_24 rfl ?_
  refine J_iconst (v := 0) dX7_init_25 (by decide) ?_
  refine J_iconst (v := 2) dX7_init_26 (by decide) ?_
  refine J_iastN 0 dX7_init_27 (xx_up_s _ _ _) rfl (by decide) (by decide) ?_
  refine J_dup dX7_init_28 rfl ?_
  refine J_iconst (v := 1) dX7_init_29 (by decide) ?_
  refine J_iconst (v := 1) dX7_init_30 (by decide) ?_
  refine J_iastN 1 dX7_init_31 (xx_up_s _ _ _) rfl (by decide) (by decide) ?_
  refine J_dup dX7_init_32 rfl ?_
  refine J_iconst (v := 2) dX7_init_33 (by decide) ?_
  refine J_iconst (v := 2) dX7_init_34 (by decide) ?_
  refine J_iastN 2 dX7_init_35 (xx_up_s _ _ _) rfl (by decide) (by decide) ?_
  refine J_putF dX7_init_36 rfl ff_X7_19 (fun _ => ⟨rfl, rfl⟩) ((xx_up_n _ _ (by omega)).trans ((xx_up_n _ _ (by omega)).trans ((xx_up_n _ _ (by omega)).trans ((xx_up_n _ _ (by omega)).trans (xx_up_s _ _ _))))) (Nat.le_of_ble_eq_true rfl) ?_
  refine J_aload_n dX7_init_39 rfl rfl ?_
  refine J_bipush (v := 16) dX7_init_40 (by decide) ?_
  refine J_newi (N := 16) dX7_init_42 ac_int (by decide) (by decide) (by decide) (Nat.le_of_ble_eq_true rfl) (Nat.le_of_ble_eq_true rfl) ?_
  refine J_putF dX7_init_44 rfl ff_X7_22 (fun _ => ⟨rfl, rfl⟩) ((xx_up_n _ _ (by omega)).trans (xx_up_s _ _ _)) (Nat.le_of_ble_eq_true rfl) ?_
  refine J_aload_n dX7_init_47 rfl rfl ?_
  refine J_bipush (v := 16) dX7_init_48 (by decide) ?_
  refine J_newi (N := 16) dX7_init_50 ac_int (by decide) (by decide) (by decide) (Nat.le_of_ble_eq_true rfl) (Nat.le_of_ble_eq_true rfl) ?_
  refine J_putF dX7_init_52 rfl ff_X7_25 (fun _ => ⟨rfl, rfl⟩) ((xx_up_n _ _ (by omega)).trans (xx_up_s _ _ _)) (Nat.le_of_ble_eq_true rfl) ?_
  refine J_aload_n dX7_init_55 rfl rfl ?_
  refine J_bipush (v := 16) dX7_init_56 (by decide) ?_
  refine J_newi (N := 16) dX7_init_58 ac_int (by decide) (by decide) (by decide) (Nat.le_of_ble_eq_true rfl) (Nat.le_of_ble_eq_true rfl) ?_
  refine J_putF dX7_init_60 rfl ff_X7_28 (fun _ => ⟨rfl, rfl⟩) ((xx_up_n _ _ (by omega)).trans (xx_up_s _ _ _)) (Nat.le_of_ble_eq_true rfl) ?_
  refine J_aload_n dX7_init_63 rfl rfl ?_
  refine J_sipush (v := 800) dX7_init_64 (by decide) ?_
  refine J_newi (N := 800) dX7_init_67 ac_int (by decide) (by decide) (by decide) (Nat.le_of_ble_eq_true rfl) (Nat.le_of_ble_eq_true rfl) ?_
  refine J_putF dX7_init_69 rfl ff_X7_31 (fun _ => ⟨rfl, rfl⟩) ((xx_up_n _ _ (by omega)).trans (xx_up_s _ _ _)) (Nat.le_of_ble_eq_true rfl) ?_
  refine J_aload_n dX7_init_72 rfl rfl ?_
  refine J_sipush (v := 800) dX7_init_73 (by decide) ?_
  refine J_newi (N := 800) dX7_init_76 ac_int (by decide) (by decide) (by decide) (Nat.le_of_ble_eq_true rfl) (Nat.le_of_ble_eq_true rfl) ?_
  refine J_putF dX7_init_78 rfl ff_X7_34 (fun _ => ⟨rfl, rfl⟩) ((xx_up_n _ _ (by omega)).trans (xx_up_s _ _ _)) (Nat.le_of_ble_eq_true rfl) ?_
  refine J_return dX7_init_81 rfl (Nat.le_of_ble_eq_true rfl) (Nat.le_of_ble_eq_true rfl) ?_
  refine ⟨rfl, rfl, fun z hz => ?_, ?_⟩
  · repeat rw [xx_up_n _ _ (by omega)]
  · show xx_w b (layN (fun _ => 0) b (a_up x0 3 wo0)) _
    refine xx_w_cons ?_ (xx_w_cons ?_ (xx_w_cons ?_ (xx_w_cons ?_ (xx_w_cons ?_ (xx_w_cons ?_ (xx_w_cons ?_ (xx_w_cons ?_ (xx_w_cons ?_ xx_w_nil)))))))) <;> first | rfl | (simp [xx_up]; done) | (simp [xx_up]; repeat' (first | rfl | constructor))
set_option maxRecDepth 100000 in
set_option maxHeartbeats 8000000 in
theorem c_X2_init (hst : l.stackTraces = false) (hA : A b = some (.inr (2, [.null, .null, .null, .null, .null, .int 0, .int 0, .int 0, .int 0]))) : xx_D G l yX2_init mX2_init 2 40 14 4476 [.ref b] A (b + 1) (ctQ b 15 A (fun A' => rdW b (s_up x0 8 (-1)) x0 x0 (fun _ => none) A')) := by
  refine J_D hst (by decide +kernel) rfl rfl rfl (Nat.le_of_ble_eq_true rfl) (fun E A n h => nomatch h.1) ?_
  show xx_J _ _ _ _ _ _ _ _ 0 [(0, _)] [] _ _ _ _
  refine J_aload_n dX2_init_0 rfl rfl ?_
  refine J_objInit dX2_init_1 ml_X2_3 im_objectInit co_objectInit ⟨by decide, by decide⟩ ?_
  refine J_aload_n dX2_init_4 rfl rfl ?_
  refine J_new (fs := [.null, .int 0, .null, .null, .null, .int 0]) dX2_init_5 k_4 cl_X2_9 ins_BeltRounds_Tape in_BeltRounds_Tape (fun q hq => by rcases (show q = 0 ∨ q = 1 ∨ q = 2 ∨ q = 3 ∨ q = 4 ∨ q = 5 by omega) with rfl | rfl | rfl | rfl | rfl | rfl <;> rfl) (fun v hv q h => by subst h; simp at hv) (Nat.le_of_ble_eq_true rfl) (Nat.le_of_ble_eq_true rfl) ?_
  refine J_dup dX2_init_8 rfl ?_
  refine J_callI (As := []) dX2_init_9 (Or.inr ⟨_, ml_X2_11⟩) cal_X5_init rfl rfl rfl im_X5_init rfl (Nat.le_of_ble_eq_true rfl) ⟨by decide, by decide⟩ ⟨Nat.le_of_ble_eq_true rfl, Nat.le_of_ble_eq_true rfl⟩ (c_X5_init (b := b + 1) hst (xx_up_s _ _ _)) (fun v1 A1 n1 _ hQ1 => ?_)
  obtain ⟨e1, en1, old1, w1⟩ := hQ1
  cases e1
  have en1b : n1 = b + 6 := by rw [en1]
  subst en1b
  have hb1 := (old1 b (by omega)).trans ((xx_up_n _ _ (by omega)).trans hA)
  refine J_putF dX2_init_12 rfl ff_X2_12 (fun _ => ⟨rfl, rfl⟩) hb1 (Nat.le_of_ble_eq_true rfl) ?_
  refine J_aload_n dX2_init_15 rfl rfl ?_
  refine J_new (fs := [.int 0, .null, .null, .int 0, .null, .null, .int 0, .null]) dX2_init_16 k_3 cl_X2_18 ins_BeltRounds_Rules in_BeltRounds_Rules (fun q hq => by rcases (show q = 0 ∨ q = 1 ∨ q = 2 ∨ q = 3 ∨ q = 4 ∨ q = 5 ∨ q = 6 ∨ q = 7 by omega) with rfl | rfl | rfl | rfl | rfl | rfl | rfl | rfl <;> rfl) (fun v hv q h => by subst h; simp at hv) (Nat.le_of_ble_eq_true rfl) (Nat.le_of_ble_eq_true rfl) ?_
  refine J_dup dX2_init_19 rfl ?_
  refine J_callI (As := []) dX2_init_20 (Or.inr ⟨_, ml_X2_20⟩) cal_X3_init rfl rfl rfl im_X3_init rfl (Nat.le_of_ble_eq_true rfl) ⟨by decide, by decide⟩ ⟨Nat.le_of_ble_eq_true rfl, Nat.le_of_ble_eq_true rfl⟩ (c_X3_init (b := b + 6) hst (xx_up_s _ _ _)) (fun v2 A2 n2 _ hQ2 => ?_)
  obtain ⟨e2, en2, old2, w2⟩ := hQ2
  cases e2
  have en2b : n2 = b + 12 := by rw [en2]
  subst en2b
  have hb2 := (old2 b (by omega)).trans ((xx_up_n _ _ (by omega)).trans (xx_up_s _ _ _))
  have w1k := xx_w.below (b := b + 1) (m := 5) w1 old2 (by repeat (first | exact w1 | refine xx_w.up (m := 5) ?_ rfl (by omega))) rfl (by omega)
  refine J_putF dX2_init_23 rfl ff_X2_21 (fun _ => ⟨rfl, rfl⟩) hb2 (Nat.le_of_ble_eq_true rfl) ?_
  refine J_aload_n dX2_init_26 rfl rfl ?_
  refine J_bipush (v := 12) dX2_init_27 (by decide) ?_
  refine J_newi (N := 12) dX2_init_29 ac_int (by decide) (by decide) (by decide) (Nat.le_of_ble_eq_true rfl) (Nat.le_of_ble_eq_true rfl) ?_
  refine J_putF dX2_init_31 rfl ff_X2_25 (fun _ => ⟨rfl, rfl⟩) ((xx_up_n _ _ (by omega)).trans (xx_up_s _ _ _)) (Nat.le_of_ble_eq_true rfl) ?_
  refine J_aload_n dX2_init_34 rfl rfl ?_
  refine J_bipush (v := 12) dX2_init_35 (by decide) ?_
  refine J_newi (N := 12) dX2_init_37 ac_int (by decide) (by decide) (by decide) (Nat.le_of_ble_eq_true rfl) (Nat.le_of_ble_eq_true rfl) ?_
  refine J_putF dX2_init_39 rfl ff_X2_29 (fun _ => ⟨rfl, rfl⟩) ((xx_up_n _ _ (by omega)).trans (xx_up_s _ _ _)) (Nat.le_of_ble_eq_true rfl) ?_
  refine J_aload_n dX2_init_42 rfl rfl ?_
  refine J_iconst (v := 3) dX2_init_43 (by decide) ?_
  refine J_newi (N := 3) dX2_init_44 ac_int (by decide) (by decide) (by decide) (Nat.le_of_ble_eq_true rfl) (Nat.le_of_ble_eq_true rfl) ?_
  refine J_putF dX2_init_46 rfl ff_X2_32 (fun _ => ⟨rfl, rfl⟩) ((xx_up_n _ _ (by omega)).trans (xx_up_s _ _ _)) (Nat.le_of_ble_eq_true rfl) ?_
  refine J_aload_n dX2_init_49 rfl rfl ?_
  refine J_iconst (v := 0) dX2_init_50 (by decide) ?_
  refine J_putf dX2_init_51 fp_X2_35 (fun _ => ⟨rfl, rfl⟩) (xx_up_s _ _ _) (Nat.le_of_ble_eq_true rfl) ?_
  refine J_aload_n dX2_init_54 rfl rfl ?_
  refine J_iconst (v := 0) dX2_init_55 (by decide) ?_
  refine J_putf dX2_init_56 fp_X2_39 (fun _ => ⟨rfl, rfl⟩) (xx_up_s _ _ _) (Nat.le_of_ble_eq_true rfl) ?_
  refine J_aload_n dX2_init_59 rfl rfl ?_
  refine J_iconst (v := 0) dX2_init_60 (by decide) ?_
  refine J_putf dX2_init_61 fp_X2_42 (fun _ => ⟨rfl, rfl⟩) (xx_up_s _ _ _) (Nat.le_of_ble_eq_true rfl) ?_
  refine J_aload_n dX2_init_64 rfl rfl ?_
  refine J_iconst (v := -1) dX2_init_65 (by decide) ?_
  refine J_putf dX2_init_66 fp_X2_45 (fun _ => ⟨rfl, rfl⟩) (xx_up_s _ _ _) (Nat.le_of_ble_eq_true rfl) ?_
  refine J_return dX2_init_69 rfl (Nat.le_of_ble_eq_true rfl) (Nat.le_of_ble_eq_true rfl) ?_
  refine ⟨rfl, rfl, fun z hz => ?_, ?_⟩
  · repeat rw [xx_up_n _ _ (by omega)]
    rw [old2 z (by omega)]
    repeat rw [xx_up_n _ _ (by omega)]
    rw [old1 z (by omega)]
    repeat rw [xx_up_n _ _ (by omega)]
  · refine ⟨?_, (by repeat (first | exact w1k | refine xx_w.up (m := 5) ?_ rfl (by omega))), (by repeat (first | exact w2 | refine xx_w.up (m := 6) ?_ rfl (by omega)))⟩
    show xx_w b (layD (b + 1) (b + 6) b (s_up x0 8 (-1))) _
    refine xx_w_cons ?_ (xx_w_cons ?_ (xx_w_cons ?_ (xx_w_cons ?_ xx_w_nil))) <;> first | rfl | (simp [xx_up]; done) | (simp [xx_up]; repeat' (first | rfl | constructor))
/-- a BeltRounds: its Reader at b + 1 (tape b + 2, rules b + 7), rules b + 16, field b + 22, trial b + 31, pairing b + 40 -/
def layX (b : Nat) : List (Nat × va_E) := [(0, .inr (5, [.ref (b + 1), .ref (b + 2), .ref (b + 16), .ref (b + 22), .ref (b + 31), .ref (b + 40)]))]
set_option maxRecDepth 100000 in
set_option maxHeartbeats 8000000 in
theorem c_X6_init (hst : l.stackTraces = false) (hA : A b = some (.inr (5, [.null, .null, .null, .null, .null, .null]))) : xx_D G l yX6_init mX6_init 3 60 45 10508 [.ref b] A (b + 1) (ctQ b 46 A (fun A' => xx_w b (layX b) A' ∧ rdW (b + 1) (s_up x0 8 (-1)) x0 x0 (fun _ => none) A' ∧ xx_w (b + 16) (layR (b + 16) x0) A' ∧ xx_w (b + 22) (layF (b + 22) (s_up x0 9 (-1))) A' ∧ xx_w (b + 31) (layF (b + 31) (s_up x0 9 (-1))) A' ∧ xx_w (b + 40) (layP (b + 40) (s_up x0 2 (-1))) A')) := by
  refine J_D hst (by decide +kernel) rfl rfl rfl (Nat.le_of_ble_eq_true rfl) (fun E A n h => nomatch h.1) ?_
  show xx_J _ _ _ _ _ _ _ _ 0 [(0, _)] [] _ _ _ _
  refine J_aload_n dX6_init_0 rfl rfl ?_
  refine J_objInit dX6_init_1 ml_X6_1 im_objectInit co_objectInit ⟨by decide, by decide⟩ ?_
  refine J_aload_n dX6_init_4 rfl rfl ?_
  refine J_new (fs := [.null, .null, .null, .null, .null, .int 0, .int 0, .int 0, .int 0]) dX6_init_5 k_2 cl_X6_7 ins_BeltRounds_Reader in_BeltRounds_Reader (fun q hq => by rcases (show q = 0 ∨ q = 1 ∨ q = 2 ∨ q = 3 ∨ q = 4 ∨ q = 5 ∨ q = 6 ∨ q = 7 ∨ q = 8 by omega) with rfl | rfl | rfl | rfl | rfl | rfl | rfl | rfl | rfl <;> rfl) (fun v hv q h => by subst h; simp at hv) (Nat.le_of_ble_eq_true rfl) (Nat.le_of_ble_eq_true rfl) ?_
  refine J_dup dX6_init_8 rfl ?_
  refine J_callI (As := []) dX6_init_9 (Or.inr ⟨_, ml_X6_9⟩) cal_X2_init rfl rfl rfl im_X2_init rfl (Nat.le_of_ble_eq_true rfl) ⟨by decide, by decide⟩ ⟨Nat.le_of_ble_eq_true rfl, Nat.le_of_ble_eq_true rfl⟩ (c_X2_init (b := b + 1) hst (xx_up_s _ _ _)) (fun v1 A1 n1 _ hQ1 => ?_)
  obtain ⟨e1, en1, old1, w1⟩ := hQ1
  cases e1
  have en1b : n1 = b + 16 := by rw [en1]
  subst en1b
  have hb1 := (old1 b (by omega)).trans ((xx_up_n _ _ (by omega)).trans hA)
  obtain ⟨w1a, w1b, w1c⟩ := w1
  refine J_putF dX6_init_12 rfl ff_X6_10 (fun _ => ⟨rfl, rfl⟩) hb1 (Nat.le_of_ble_eq_true rfl) ?_
  refine J_aload_n dX6_init_15 rfl rfl ?_
  refine J_aload_n dX6_init_16 rfl rfl ?_
  refine J_getf dX6_init_17 fl_X6_10 (xx_up_s _ _ _) rfl ?_
  refine J_getf dX6_init_20 fl_X6_16 ((xx_w.up (m := 15) w1a rfl (by omega)).at 0 rfl) rfl ?_
  refine J_putF dX6_init_23 rfl ff_X6_20 (fun _ => ⟨rfl, rfl⟩) (xx_up_s _ _ _) (Nat.le_of_ble_eq_true rfl) ?_
  refine J_aload_n dX6_init_26 rfl rfl ?_
  refine J_new (fs := [.int 0, .null, .null, .int 0, .null, .null, .int 0, .null]) dX6_init_27 k_3 cl_X6_21 ins_BeltRounds_Rules in_BeltRounds_Rules (fun q hq => by rcases (show q = 0 ∨ q = 1 ∨ q = 2 ∨ q = 3 ∨ q = 4 ∨ q = 5 ∨ q = 6 ∨ q = 7 by omega) with rfl | rfl | rfl | rfl | rfl | rfl | rfl | rfl <;> rfl) (fun v hv q h => by subst h; simp at hv) (Nat.le_of_ble_eq_true rfl) (Nat.le_of_ble_eq_true rfl) ?_
  refine J_dup dX6_init_30 rfl ?_
  refine J_callI (As := []) dX6_init_31 (Or.inr ⟨_, ml_X6_23⟩) cal_X3_init rfl rfl rfl im_X3_init rfl (Nat.le_of_ble_eq_true rfl) ⟨by decide, by decide⟩ ⟨Nat.le_of_ble_eq_true rfl, Nat.le_of_ble_eq_true rfl⟩ (c_X3_init (b := b + 16) hst (xx_up_s _ _ _)) (fun v2 A2 n2 _ hQ2 => ?_)
  obtain ⟨e2, en2, old2, w2⟩ := hQ2
  cases e2
  have en2b : n2 = b + 22 := by rw [en2]
  subst en2b
  have hb2 := (old2 b (by omega)).trans ((xx_up_n _ _ (by omega)).trans (xx_up_s _ _ _))
  have w1ak := xx_w.below (b := b + 1) (m := 15) w1a old2 (by repeat (first | exact w1a | refine xx_w.up (m := 15) ?_ rfl (by omega))) rfl (by omega)
  have w1bk := xx_w.below (b := b + 2) (m := 5) w1b old2 (by repeat (first | exact w1b | refine xx_w.up (m := 5) ?_ rfl (by omega))) rfl (by omega)
  have w1ck := xx_w.below (b := b + 7) (m := 6) w1c old2 (by repeat (first | exact w1c | refine xx_w.up (m := 6) ?_ rfl (by omega))) rfl (by omega)
  refine J_putF dX6_init_34 rfl ff_X6_24 (fun _ => ⟨rfl, rfl⟩) hb2 (Nat.le_of_ble_eq_true rfl) ?_
  refine J_aload_n dX6_init_37 rfl rfl ?_
  refine J_new (fs := [.int 0, .int 0, .null, .null, .null, .int 0, .null, .null, .null, .int 0, .null, .null]) dX6_init_38 k_0 cl_X6_28 ins_BeltRounds_Field in_BeltRounds_Field (fun q hq => by rcases (show q = 0 ∨ q = 1 ∨ q = 2 ∨ q = 3 ∨ q = 4 ∨ q = 5 ∨ q = 6 ∨ q = 7 ∨ q = 8 ∨ q = 9 ∨ q = 10 ∨ q = 11 by omega) with rfl | rfl | rfl | rfl | rfl | rfl | rfl | rfl | rfl | rfl | rfl | rfl <;> rfl) (fun v hv q h => by subst h; simp at hv) (Nat.le_of_ble_eq_true rfl) (Nat.le_of_ble_eq_true rfl) ?_
  refine J_dup dX6_init_41 rfl ?_
  refine J_callI (As := []) dX6_init_42 (Or.inr ⟨_, ml_X6_30⟩) cal_X0_init rfl rfl rfl im_X0_init rfl (Nat.le_of_ble_eq_true rfl) ⟨by decide, by decide⟩ ⟨Nat.le_of_ble_eq_true rfl, Nat.le_of_ble_eq_true rfl⟩ (c_X0_init (b := b + 22) hst (xx_up_s _ _ _)) (fun v3 A3 n3 _ hQ3 => ?_)
  obtain ⟨e3, en3, old3, w3⟩ := hQ3
  cases e3
  have en3b : n3 = b + 31 := by rw [en3]
  subst en3b
  have hb3 := (old3 b (by omega)).trans ((xx_up_n _ _ (by omega)).trans (xx_up_s _ _ _))
  have w1akk := xx_w.below (b := b + 1) (m := 15) w1ak old3 (by repeat (first | exact w1ak | refine xx_w.up (m := 15) ?_ rfl (by omega))) rfl (by omega)
  have w1bkk := xx_w.below (b := b + 2) (m := 5) w1bk old3 (by repeat (first | exact w1bk | refine xx_w.up (m := 5) ?_ rfl (by omega))) rfl (by omega)
  have w1ckk := xx_w.below (b := b + 7) (m := 6) w1ck old3 (by repeat (first | exact w1ck | refine xx_w.up (m := 6) ?_ rfl (by omega))) rfl (by omega)
  have w2k := xx_w.below (b := b + 16) (m := 6) w2 old3 (by repeat (first | exact w2 | refine xx_w.up (m := 6) ?_ rfl (by omega))) rfl (by omega)
  refine J_putF dX6_init_45 rfl ff_X6_31 (fun _ => ⟨rfl, rfl⟩) hb3 (Nat.le_of_ble_eq_true rfl) ?_
  refine J_aload_n dX6_init_48 rfl rfl ?_
  refine J_new (fs := [.int 0, .int 0, .null, .null, .null, .int 0, .null, .null, .null, .int 0, .null, .null]) dX6_init_49 k_0 cl_X6_28 ins_BeltRounds_Field in_BeltRounds_Field (fun q hq => by rcases (show q = 0 ∨ q = 1 ∨ q = 2 ∨ q = 3 ∨ q = 4 ∨ q = 5 ∨ q = 6 ∨ q = 7 ∨ q = 8 ∨ q = 9 ∨ q = 10 ∨ q = 11 by omega) with rfl | rfl | rfl | rfl | rfl | rfl | rfl | rfl | rfl | rfl | rfl | rfl <;> rfl) (fun v hv q h => by subst h; simp at hv) (Nat.le_of_ble_eq_true rfl) (Nat.le_of_ble_eq_true rfl) ?_
  refine J_dup dX6_init_52 rfl ?_
  refine J_callI (As := []) dX6_init_53 (Or.inr ⟨_, ml_X6_30⟩) cal_X0_init rfl rfl rfl im_X0_init rfl (Nat.le_of_ble_eq_true rfl) ⟨by decide, by decide⟩ ⟨Nat.le_of_ble_eq_true rfl, Nat.le_of_ble_eq_true rfl⟩ (c_X0_init (b := b + 31) hst (xx_up_s _ _ _)) (fun v4 A4 n4 _ hQ4 => ?_)
  obtain ⟨e4, en4, old4, w4⟩ := hQ4
  cases e4
  have en4b : n4 = b + 40 := by rw [en4]
  subst en4b
  have hb4 := (old4 b (by omega)).trans ((xx_up_n _ _ (by omega)).trans (xx_up_s _ _ _))
  have w1akkk := xx_w.below (b := b + 1) (m := 15) w1akk old4 (by repeat (first | exact w1akk | refine xx_w.up (m := 15) ?_ rfl (by omega))) rfl (by omega)
  have w1bkkk := xx_w.below (b := b + 2) (m := 5) w1bkk old4 (by repeat (first | exact w1bkk | refine xx_w.up (m := 5) ?_ rfl (by omega))) rfl (by omega)
  have w1ckkk := xx_w.below (b := b + 7) (m := 6) w1ckk old4 (by repeat (first | exact w1ckk | refine xx_w.up (m := 6) ?_ rfl (by omega))) rfl (by omega)
  have w2kk := xx_w.below (b := b + 16) (m := 6) w2k old4 (by repeat (first | exact w2k | refine xx_w.up (m := 6) ?_ rfl (by omega))) rfl (by omega)
  have w3k := xx_w.below (b := b + 22) (m := 9) w3 old4 (by repeat (first | exact w3 | refine xx_w.up (m := 9) ?_ rfl (by omega))) rfl (by omega)
  refine J_putF dX6_init_56 rfl ff_X6_35 (fun _ => ⟨rfl, rfl⟩) hb4 (Nat.le_of_ble_eq_true rfl) ?_
  refine J_aload_n dX6_init_59 rfl rfl ?_
  refine J_new (fs := [.int 0, .int 0, .int 0, .null, .null, .int 0, .null, .null, .null]) dX6_init_60 k_1 cl_X6_38 ins_BeltRounds_Pairing in_BeltRounds_Pairing (fun q hq => by rcases (show q = 0 ∨ q = 1 ∨ q = 2 ∨ q = 3 ∨ q = 4 ∨ q = 5 ∨ q = 6 ∨ q = 7 ∨ q = 8 by omega) with rfl | rfl | rfl | rfl | rfl | rfl | rfl | rfl | rfl <;> rfl) (fun v hv q h => by subst h; simp at hv) (Nat.le_of_ble_eq_true rfl) (Nat.le_of_ble_eq_true rfl) ?_
  refine J_dup dX6_init_63 rfl ?_
  refine J_callI (As := []) dX6_init_64 (Or.inr ⟨_, ml_X6_40⟩) cal_X1_init rfl rfl rfl im_X1_init rfl (Nat.le_of_ble_eq_true rfl) ⟨by decide, by decide⟩ ⟨Nat.le_of_ble_eq_true rfl, Nat.le_of_ble_eq_true rfl⟩ (c_X1_init (b := b + 40) hst (xx_up_s _ _ _)) (fun v5 A5 n5 _ hQ5 => ?_)
  obtain ⟨e5, en5, old5, w5⟩ := hQ5
  cases e5
  have en5b : n5 = b + 46 := by rw [en5]
  subst en5b
  have hb5 := (old5 b (by omega)).trans ((xx_up_n _ _ (by omega)).trans (xx_up_s _ _ _))
  have w1akkkk := xx_w.below (b := b + 1) (m := 15) w1akkk old5 (by repeat (first | exact w1akkk | refine xx_w.up (m := 15) ?_ rfl (by omega))) rfl (by omega)
  have w1bkkkk := xx_w.below (b := b + 2) (m := 5) w1bkkk old5 (by repeat (first | exact w1bkkk | refine xx_w.up (m := 5) ?_ rfl (by omega))) rfl (by omega)
  have w1ckkkk := xx_w.below (b := b + 7) (m := 6) w1ckkk old5 (by repeat (first | exact w1ckkk | refine xx_w.up (m := 6) ?_ rfl (by omega))) rfl (by omega)
  have w2kkk := xx_w.below (b := b + 16) (m := 6) w2kk old5 (by repeat (first | exact w2kk | refine xx_w.up (m := 6) ?_ rfl (by omega))) rfl (by omega)
  have w3kk := xx_w.below (b := b + 22) (m := 9) w3k old5 (by repeat (first | exact w3k | refine xx_w.up (m := 9) ?_ rfl (by omega))) rfl (by omega)
  have w4k := xx_w.below (b := b + 31) (m := 9) w4 old5 (by repeat (first | exact w4 | refine xx_w.up (m := 9) ?_ rfl (by omega))) rfl (by omega)
  refine J_putF dX6_init_67 rfl ff_X6_41 (fun _ => ⟨rfl, rfl⟩) hb5 (Nat.le_of_ble_eq_true rfl) ?_
  refine J_return dX6_init_70 rfl (Nat.le_of_ble_eq_true rfl) (Nat.le_of_ble_eq_true rfl) ?_
  refine ⟨rfl, rfl, fun z hz => ?_, ?_⟩
  · repeat rw [xx_up_n _ _ (by omega)]
    rw [old5 z (by omega)]
    repeat rw [xx_up_n _ _ (by omega)]
    rw [old4 z (by omega)]
    repeat rw [xx_up_n _ _ (by omega)]
    rw [old3 z (by omega)]
    repeat rw [xx_up_n _ _ (by omega)]
    rw [old2 z (by omega)]
    repeat rw [xx_up_n _ _ (by omega)]
    rw [old1 z (by omega)]
    repeat rw [xx_up_n _ _ (by omega)]
  · refine ⟨?_, ⟨(by repeat (first | exact w1akkkk | refine xx_w.up (m := 15) ?_ rfl (by omega))), (by repeat (first | exact w1bkkkk | refine xx_w.up (m := 5) ?_ rfl (by omega))), (by repeat (first | exact w1ckkkk | refine xx_w.up (m := 6) ?_ rfl (by omega)))⟩, (by repeat (first | exact w2kkk | refine xx_w.up (m := 6) ?_ rfl (by omega))), (by repeat (first | exact w3kk | refine xx_w.up (m := 9) ?_ rfl (by omega))), (by repeat (first | exact w4k | refine xx_w.up (m := 9) ?_ rfl (by omega))), (by repeat (first | exact w5 | refine xx_w.up (m := 6) ?_ rfl (by omega)))⟩
    show xx_w b (layX b) _
    refine xx_w_cons ?_ xx_w_nil <;> first | rfl | (simp [xx_up]; done) | (simp [xx_up]; repeat' (first | rfl | constructor))
set_option maxRecDepth 100000 in
set_option maxHeartbeats 8000000 in
theorem c_X9_init (hst : l.stackTraces = false) (hA : A b = some (.inr (8, [.int 0, .null, .int 0, .int 0, .null, .null, .null, .null, .null, .int 0, .int 0, .null, .null, .null, .int 0, .int 0, .null, .null, .null, .null, .int 0, .int 0]))) : xx_D G l yX9_init mX9_init 2 40 47 10782 [.ref b] A (b + 1) (ctQ b 48 A (fun A' => xx_w b (layM (b + 2) (fun _ => 0) (b + 15) (b + 29) b (s_up x0 3 (-1))) A' ∧ xx_w (b + 2) (layN (fun _ => 0) (b + 2) (a_up x0 3 wo0)) A' ∧ xx_w (b + 15) (layS (b + 15) (s_up x0 2 (-1))) A' ∧ xx_w (b + 29) (layS (b + 29) (s_up x0 2 (-1))) A')) := by
  refine J_D hst (by decide +kernel) rfl rfl rfl (Nat.le_of_ble_eq_true rfl) (fun E A n h => nomatch h.1) ?_
  show xx_J _ _ _ _ _ _ _ _ 0 [(0, _)] [] _ _ _ _
  refine J_aload_n dX9_init_0 rfl rfl ?_
  refine J_objInit dX9_init_1 ml_X9_1 im_objectInit co_objectInit ⟨by decide, by decide⟩ ?_
  refine J_aload_n dX9_init_4 rfl rfl ?_
  refine J_sipush (v := 2000) dX9_init_5 (by decide) ?_
  refine J_newi (N := 2000) dX9_init_8 ac_int (by decide) (by decide) (by decide) (Nat.le_of_ble_eq_true rfl) (Nat.le_of_ble_eq_true rfl) ?_
  refine J_putF dX9_init_10 rfl ff_X9_9 (fun _ => ⟨rfl, rfl⟩) ((xx_up_n _ _ (by omega)).trans hA) (Nat.le_of_ble_eq_true rfl) ?_
  refine J_aload_n dX9_init_13 rfl rfl ?_
  refine J_iconst (v := -1) dX9_init_14 (by decide) ?_
  refine J_putf dX9_init_15 fp_X9_13 (fun _ => ⟨rfl, rfl⟩) (xx_up_s _ _ _) (Nat.le_of_ble_eq_true rfl) ?_
  refine J_aload_n dX9_init_18 rfl rfl ?_
  refine J_new (fs := [.int 0, .null, .null, .null, .int 0, .null, .null, .null, .null, .null, .int 0]) dX9_init_19 k_6 cl_X9_17 ins_BeltRoundsModel_Plan in_BeltRoundsModel_Plan (fun q hq => by rcases (show q = 0 ∨ q = 1 ∨ q = 2 ∨ q = 3 ∨ q = 4 ∨ q = 5 ∨ q = 6 ∨ q = 7 ∨ q = 8 ∨ q = 9 ∨ q = 10 by omega) with rfl | rfl | rfl | rfl | rfl | rfl | rfl | rfl | rfl | rfl | rfl <;> rfl) (fun v hv q h => by subst h; simp at hv) (Nat.le_of_ble_eq_true rfl) (Nat.le_of_ble_eq_true rfl) ?_
  refine J_dup dX9_init_22 rfl ?_
  refine J_callI (As := []) dX9_init_23 (Or.inr ⟨_, ml_X9_19⟩) cal_X7_init rfl rfl rfl im_X7_init rfl (Nat.le_of_ble_eq_true rfl) ⟨by decide, by decide⟩ ⟨Nat.le_of_ble_eq_true rfl, Nat.le_of_ble_eq_true rfl⟩ (c_X7_init (b := b + 2) hst (xx_up_s _ _ _)) (fun v1 A1 n1 _ hQ1 => ?_)
  obtain ⟨e1, en1, old1, w1⟩ := hQ1
  cases e1
  have en1b : n1 = b + 11 := by rw [en1]
  subst en1b
  have hb1 := (old1 b (by omega)).trans ((xx_up_n _ _ (by omega)).trans (xx_up_s _ _ _))
  refine J_putf dX9_init_26 fp_X9_20 (fun _ => ⟨rfl, rfl⟩) hb1 (Nat.le_of_ble_eq_true rfl) ?_
  refine J_aload_n dX9_init_29 rfl rfl ?_
  refine J_sipush (v := 401) dX9_init_30 (by decide) ?_
  refine J_newi (N := 401) dX9_init_33 ac_int (by decide) (by decide) (by decide) (Nat.le_of_ble_eq_true rfl) (Nat.le_of_ble_eq_true rfl) ?_
  refine J_putF dX9_init_35 rfl ff_X9_24 (fun _ => ⟨rfl, rfl⟩) ((xx_up_n _ _ (by omega)).trans (xx_up_s _ _ _)) (Nat.le_of_ble_eq_true rfl) ?_
  refine J_aload_n dX9_init_38 rfl rfl ?_
  refine J_sipush (v := 401) dX9_init_39 (by decide) ?_
  refine J_newi (N := 401) dX9_init_42 ac_int (by decide) (by decide) (by decide) (Nat.le_of_ble_eq_true rfl) (Nat.le_of_ble_eq_true rfl) ?_
  refine J_putF dX9_init_44 rfl ff_X9_27 (fun _ => ⟨rfl, rfl⟩) ((xx_up_n _ _ (by omega)).trans (xx_up_s _ _ _)) (Nat.le_of_ble_eq_true rfl) ?_
  refine J_aload_n dX9_init_47 rfl rfl ?_
  refine J_sipush (v := 401) dX9_init_48 (by decide) ?_
  refine J_newi (N := 401) dX9_init_51 ac_int (by decide) (by decide) (by decide) (Nat.le_of_ble_eq_true rfl) (Nat.le_of_ble_eq_true rfl) ?_
  refine J_putF dX9_init_53 rfl ff_X9_30 (fun _ => ⟨rfl, rfl⟩) ((xx_up_n _ _ (by omega)).trans (xx_up_s _ _ _)) (Nat.le_of_ble_eq_true rfl) ?_
  refine J_aload_n dX9_init_56 rfl rfl ?_
  refine J_sipush (v := 401) dX9_init_57 (by decide) ?_
  refine J_newl (N := 401) dX9_init_60 ac_long (by decide) (by decide) (by decide) (Nat.le_of_ble_eq_true rfl) (Nat.le_of_ble_eq_true rfl) ?_
  refine J_putF dX9_init_62 rfl ff_X9_33 (fun _ => ⟨rfl, rfl⟩) ((xx_up_n _ _ (by omega)).trans (xx_up_s _ _ _)) (Nat.le_of_ble_eq_true rfl) ?_
  refine J_aload_n dX9_init_65 rfl rfl ?_
  refine J_new (fs := [.int 0, .int 0, .int 0, .null, .null, .null, .null, .null, .null, .null, .null, .null, .null, .null, .null, .null]) dX9_init_66 k_7 cl_X9_37 ins_BeltRoundsModel_State in_BeltRoundsModel_State (fun q hq => by rcases (show q = 0 ∨ q = 1 ∨ q = 2 ∨ q = 3 ∨ q = 4 ∨ q = 5 ∨ q = 6 ∨ q = 7 ∨ q = 8 ∨ q = 9 ∨ q = 10 ∨ q = 11 ∨ q = 12 ∨ q = 13 ∨ q = 14 ∨ q = 15 by omega) with rfl | rfl | rfl | rfl | rfl | rfl | rfl | rfl | rfl | rfl | rfl | rfl | rfl | rfl | rfl | rfl <;> rfl) (fun v hv q h => by subst h; simp at hv) (Nat.le_of_ble_eq_true rfl) (Nat.le_of_ble_eq_true rfl) ?_
  refine J_dup dX9_init_69 rfl ?_
  refine J_callI (As := []) dX9_init_70 (Or.inr ⟨_, ml_X9_39⟩) cal_X8_init rfl rfl rfl im_X8_init rfl (Nat.le_of_ble_eq_true rfl) ⟨by decide, by decide⟩ ⟨Nat.le_of_ble_eq_true rfl, Nat.le_of_ble_eq_true rfl⟩ (c_X8_init (b := b + 15) hst (xx_up_s _ _ _)) (fun v2 A2 n2 _ hQ2 => ?_)
  obtain ⟨e2, en2, old2, w2⟩ := hQ2
  cases e2
  have en2b : n2 = b + 29 := by rw [en2]
  subst en2b
  have hb2 := (old2 b (by omega)).trans ((xx_up_n _ _ (by omega)).trans (xx_up_s _ _ _))
  have w1k := xx_w.below (b := b + 2) (m := 9) w1 old2 (by repeat (first | exact w1 | refine xx_w.up (m := 9) ?_ rfl (by omega))) rfl (by omega)
  refine J_putf dX9_init_73 fp_X9_40 (fun _ => ⟨rfl, rfl⟩) hb2 (Nat.le_of_ble_eq_true rfl) ?_
  refine J_aload_n dX9_init_76 rfl rfl ?_
  refine J_new (fs := [.int 0, .int 0, .int 0, .null, .null, .null, .null, .null, .null, .null, .null, .null, .null, .null, .null, .null]) dX9_init_77 k_7 cl_X9_37 ins_BeltRoundsModel_State in_BeltRoundsModel_State (fun q hq => by rcases (show q = 0 ∨ q = 1 ∨ q = 2 ∨ q = 3 ∨ q = 4 ∨ q = 5 ∨ q = 6 ∨ q = 7 ∨ q = 8 ∨ q = 9 ∨ q = 10 ∨ q = 11 ∨ q = 12 ∨ q = 13 ∨ q = 14 ∨ q = 15 by omega) with rfl | rfl | rfl | rfl | rfl | rfl | rfl | rfl | rfl | rfl | rfl | rfl | rfl | rfl | rfl | rfl <;> rfl) (fun v hv q h => by subst h; simp at hv) (Nat.le_of_ble_eq_true rfl) (Nat.le_of_ble_eq_true rfl) ?_
  refine J_dup dX9_init_80 rfl ?_
  refine J_callI (As := []) dX9_init_81 (Or.inr ⟨_, ml_X9_39⟩) cal_X8_init rfl rfl rfl im_X8_init rfl (Nat.le_of_ble_eq_true rfl) ⟨by decide, by decide⟩ ⟨Nat.le_of_ble_eq_true rfl, Nat.le_of_ble_eq_true rfl⟩ (c_X8_init (b := b + 29) hst (xx_up_s _ _ _)) (fun v3 A3 n3 _ hQ3 => ?_)
  obtain ⟨e3, en3, old3, w3⟩ := hQ3
  cases e3
  have en3b : n3 = b + 43 := by rw [en3]
  subst en3b
  have hb3 := (old3 b (by omega)).trans ((xx_up_n _ _ (by omega)).trans (xx_up_s _ _ _))
  have w1kk := xx_w.below (b := b + 2) (m := 9) w1k old3 (by repeat (first | exact w1k | refine xx_w.up (m := 9) ?_ rfl (by omega))) rfl (by omega)
  have w2k := xx_w.below (b := b + 15) (m := 14) w2 old3 (by repeat (first | exact w2 | refine xx_w.up (m := 14) ?_ rfl (by omega))) rfl (by omega)
  refine J_putF dX9_init_84 rfl ff_X9_44 (fun _ => ⟨rfl, rfl⟩) hb3 (Nat.le_of_ble_eq_true rfl) ?_
  refine J_aload_n dX9_init_87 rfl rfl ?_
  refine J_bipush (v := 12) dX9_init_88 (by decide) ?_
  refine J_newi (N := 12) dX9_init_90 ac_int (by decide) (by decide) (by decide) (Nat.le_of_ble_eq_true rfl) (Nat.le_of_ble_eq_true rfl) ?_
  refine J_putF dX9_init_92 rfl ff_X9_47 (fun _ => ⟨rfl, rfl⟩) ((xx_up_n _ _ (by omega)).trans (xx_up_s _ _ _)) (Nat.le_of_ble_eq_true rfl) ?_
  refine J_aload_n dX9_init_95 rfl rfl ?_
  refine J_sipush (v := 4096) dX9_init_96 (by decide) ?_
  refine J_newi (N := 4096) dX9_init_99 ac_int (by decide) (by decide) (by decide) (Nat.le_of_ble_eq_true rfl) (Nat.le_of_ble_eq_true rfl) ?_
  refine J_putF dX9_init_101 rfl ff_X9_50 (fun _ => ⟨rfl, rfl⟩) ((xx_up_n _ _ (by omega)).trans (xx_up_s _ _ _)) (Nat.le_of_ble_eq_true rfl) ?_
  refine J_aload_n dX9_init_104 rfl rfl ?_
  refine J_bipush (v := 6) dX9_init_105 (by decide) ?_
  refine J_newi (N := 6) dX9_init_107 ac_int (by decide) (by decide) (by decide) (Nat.le_of_ble_eq_true rfl) (Nat.le_of_ble_eq_true rfl) ?_
  refine J_putF dX9_init_109 rfl ff_X9_53 (fun _ => ⟨rfl, rfl⟩) ((xx_up_n _ _ (by omega)).trans (xx_up_s _ _ _)) (Nat.le_of_ble_eq_true rfl) ?_
  refine J_aload_n dX9_init_112 rfl rfl ?_
  refine J_bipush (v := 6) dX9_init_113 (by decide) ?_
  refine J_newi (N := 6) dX9_init_115 ac_int (by decide) (by decide) (by decide) (Nat.le_of_ble_eq_true rfl) (Nat.le_of_ble_eq_true rfl) ?_
  refine J_putF dX9_init_117 rfl ff_X9_56 (fun _ => ⟨rfl, rfl⟩) ((xx_up_n _ _ (by omega)).trans (xx_up_s _ _ _)) (Nat.le_of_ble_eq_true rfl) ?_
  refine J_aload_n dX9_init_120 rfl rfl ?_
  refine J_sipush (v := 800) dX9_init_121 (by decide) ?_
  refine J_newi (N := 800) dX9_init_124 ac_int (by decide) (by decide) (by decide) (Nat.le_of_ble_eq_true rfl) (Nat.le_of_ble_eq_true rfl) ?_
  refine J_putF dX9_init_126 rfl ff_X9_59 (fun _ => ⟨rfl, rfl⟩) ((xx_up_n _ _ (by omega)).trans (xx_up_s _ _ _)) (Nat.le_of_ble_eq_true rfl) ?_
  refine J_return dX9_init_129 rfl (Nat.le_of_ble_eq_true rfl) (Nat.le_of_ble_eq_true rfl) ?_
  refine ⟨rfl, rfl, fun z hz => ?_, ?_⟩
  · repeat rw [xx_up_n _ _ (by omega)]
    rw [old3 z (by omega)]
    repeat rw [xx_up_n _ _ (by omega)]
    rw [old2 z (by omega)]
    repeat rw [xx_up_n _ _ (by omega)]
    rw [old1 z (by omega)]
    repeat rw [xx_up_n _ _ (by omega)]
  · refine ⟨?_, (by repeat (first | exact w1kk | refine xx_w.up (m := 9) ?_ rfl (by omega))), (by repeat (first | exact w2k | refine xx_w.up (m := 14) ?_ rfl (by omega))), (by repeat (first | exact w3 | refine xx_w.up (m := 14) ?_ rfl (by omega)))⟩
    show xx_w b (layM (b + 2) (fun _ => 0) (b + 15) (b + 29) b (s_up x0 3 (-1))) _
    refine xx_w_cons ?_ (xx_w_cons ?_ (xx_w_cons ?_ (xx_w_cons ?_ (xx_w_cons ?_ (xx_w_cons ?_ (xx_w_cons ?_ (xx_w_cons ?_ (xx_w_cons ?_ (xx_w_cons ?_ (xx_w_cons ?_ xx_w_nil)))))))))) <;> first | rfl | (simp [xx_up]; done) | (simp [xx_up]; (repeat' (first | rfl | constructor)); done) | (simp only [xx_up]; simp; rw [old3 _ (by omega)]; simp [xx_up]; done) | (simp only [xx_up]; simp; rw [old3 _ (by omega)]; simp [xx_up]; rw [old2 _ (by omega)]; simp [xx_up]; done) | (simp only [xx_up]; simp; rw [old3 _ (by omega)]; simp [xx_up]; rw [old2 _ (by omega)]; simp [xx_up]; rw [old1 _ (by omega)]; simp [xx_up]; done)
end XCT
