/-! THE LAYOUT (by program): what the constructors lay down -/
def NN : Nat := 117
def SHL : List (Nat × Nat) := [(9, 0), (0, 8), (0, 6), (3, 600), (0, 4), (0, 7), (1, 601), (1, 601), (2, 601), (0, 1), (0, 3), (2, 4), (1, 4), (5, 6), (2, 8), (1, 8), (1, 6), (1, 6), (1, 6), (0, 3), (2, 4), (1, 4), (0, 3), (2, 4), (1, 4), (0, 3), (2, 4), (1, 4), (0, 3), (2, 4), (1, 4), (0, 3), (2, 4), (1, 4), (0, 3), (2, 4), (1, 4), (0, 2), (1, 120), (2, 480), (0, 0), (0, 5), (1, 30), (1, 30), (1, 30), (1, 30), (1, 30), (1, 180), (1, 180), (1, 180), (1, 180), (1, 180), (1, 180), (2, 16), (1, 16), (1, 16), (1, 16), (1, 16), (1, 16), (0, 0), (0, 5), (1, 30), (1, 30), (1, 30), (1, 30), (1, 30), (1, 180), (1, 180), (1, 180), (1, 180), (1, 180), (1, 180), (2, 16), (1, 16), (1, 16), (1, 16), (1, 16), (1, 16), (0, 9), (1, 600), (1, 602), (1, 602), (1, 602), (2, 602), (1, 2), (2, 32), (1, 32), (1, 32), (1, 2), (1, 61), (1, 244), (2, 244), (1, 61), (1, 61), (1, 61), (1, 61), (1, 366), (1, 366), (1, 1464), (2, 1464), (1, 2), (1, 400), (2, 1600), (2, 9), (1, 9), (4, 9), (1, 4), (2, 4), (1, 366), (1, 366), (1, 61), (4, 256), (1, 6), (1, 6), (1, 6), (4, 9), (4, 6), (2, 1)]
def SHf (q : Nat) : Nat × Nat := SHL.getD q (9, 0)
def LYT : List (Nat × Nat × Nat) := [(1, 0, 2), (1, 1, 4), (2, 0, 3), (4, 0, 5), (4, 1, 9), (4, 2, 37), (5, 0, 6), (5, 1, 7), (5, 2, 8), (9, 0, 10), (9, 1, 13), (9, 7, 14), (9, 8, 15), (9, 9, 16), (9, 10, 17), (9, 11, 18), (10, 5, 11), (10, 6, 12), (13, 0, 19), (13, 1, 22), (13, 2, 25), (13, 3, 28), (13, 4, 31), (13, 5, 34), (19, 5, 20), (19, 6, 21), (22, 5, 23), (22, 6, 24), (25, 5, 26), (25, 6, 27), (28, 5, 29), (28, 6, 30), (31, 5, 32), (31, 6, 33), (34, 5, 35), (34, 6, 36), (37, 0, 38), (37, 1, 39), (40, 0, 41), (40, 2, 53), (40, 3, 54), (40, 4, 55), (40, 5, 56), (40, 6, 57), (40, 7, 58), (41, 1, 42), (41, 2, 43), (41, 3, 44), (41, 4, 45), (41, 5, 46), (41, 6, 47), (41, 7, 48), (41, 8, 49), (41, 9, 50), (41, 10, 51), (41, 11, 52), (59, 0, 60), (59, 2, 72), (59, 3, 73), (59, 4, 74), (59, 5, 75), (59, 6, 76), (59, 7, 77), (60, 1, 61), (60, 2, 62), (60, 3, 63), (60, 4, 64), (60, 5, 65), (60, 6, 66), (60, 7, 67), (60, 8, 68), (60, 9, 69), (60, 10, 70), (60, 11, 71), (78, 1, 79), (78, 6, 80), (78, 7, 81), (78, 8, 82), (78, 9, 83), (78, 12, 84), (78, 13, 85), (78, 14, 86), (78, 15, 87), (78, 16, 88), (78, 17, 89), (78, 18, 90), (78, 19, 91), (78, 20, 92), (78, 21, 93), (78, 22, 94), (78, 23, 95), (78, 24, 96), (78, 25, 97), (78, 26, 98), (78, 27, 99), (78, 28, 100), (78, 29, 101), (78, 30, 102), (78, 32, 103), (78, 33, 104), (78, 34, 105), (78, 39, 106), (78, 40, 107), (78, 47, 108), (78, 48, 109), (78, 49, 110), (78, 50, 111), (78, 51, 112), (78, 52, 113), (78, 53, 114), (78, 54, 115), (78, 55, 116)]
def isLt (r : Nat) : Prop := r = 10 ∨ r = 19 ∨ r = 22 ∨ r = 25 ∨ r = 28 ∨ r = 31 ∨ r = 34
def isBk (r : Nat) : Prop := r = 40 ∨ r = 59
def isRl (r : Nat) : Prop := r = 41 ∨ r = 60
def LY (w : Wo) : Prop := wn w = NN ∧ (∀ q, wsh w q = SHf q) ∧ (∀ e ∈ LYT, gP w e.1 e.2.1 = e.2.2) ∧ isBk (gP w 1 2) ∧ isBk (gP w 1 3)
theorem SHf_lt (q : Nat) : (SHf q).2 < 2147483648 := by
  have h : ∀ x ∈ SHL, x.2 < 2147483648 := by decide +kernel
  unfold SHf
  rw [List.getD_eq_getElem?_getD]
  cases hq : SHL[q]? with
  | none => decide
  | some x => exact h x (List.mem_of_getElem? hq)
theorem ly_o {w : Wo} (h : LY w) {q : Nat} {sh : Nat × Nat} (hb : 0 < q ∧ q ≤ NN ∧ SHf q = sh) : oq w q sh := ⟨hb.1, by rw [h.1]; exact hb.2.1, (h.2.1 q).trans hb.2.2⟩
theorem ly_a {w : Wo} (h : LY w) {a t n : Nat} (hb : 0 < a ∧ a ≤ NN ∧ SHf a = (t, n)) {i N : Int} (hi : 0 ≤ i ∧ i < N) (hN : N ≤ (n : Int) := by decide) : inA w a t i := by
  have e := h.2.1 a
  have hl := SHf_lt a
  rw [← e] at hl
  refine ⟨hb.1, by rw [h.1]; exact hb.2.1, by rw [e, hb.2.2], hi.1, ?_, hl⟩
  rw [e, hb.2.2]
  exact Int.lt_of_lt_of_le hi.2 hN
theorem ly_r {w : Wo} (h : LY w) {q j v : Nat} (hm : (q, j, v) ∈ LYT) : gP w q j = v := h.2.2.1 _ hm
theorem ly_book {w : Wo} (h : LY w) : isBk (gP w 1 2) := h.2.2.2.1
theorem ly_draft {w : Wo} (h : LY w) : isBk (gP w 1 3) := h.2.2.2.2
theorem gP_uPn {w : Wo} {o k b j : Nat} {v : Nat} (h : ¬ (b = o ∧ j = k)) : gP (uP w o k v) b j = gP w b j := if_neg h
theorem ly_pbook {w : Wo} {v : Nat} (h : LY w) (hv : isBk v) : LY (uP w 1 2 v) := by
  have hn : ∀ e ∈ LYT, ¬ (e.1 = 1 ∧ e.2.1 = 2) := by decide +kernel
  refine ⟨h.1, h.2.1, fun e he => by rw [gP_uPn (hn e he)]; exact h.2.2.1 e he, ?_, ?_⟩
  · show isBk (up2 w.2.2.2.2 1 2 v 1 2)
    rw [show up2 w.2.2.2.2 1 2 v 1 2 = v from if_pos ⟨rfl, rfl⟩]
    exact hv
  · rw [gP_uPn (by decide)]
    exact ly_draft h
theorem ly_pdraft {w : Wo} {v : Nat} (h : LY w) (hv : isBk v) : LY (uP w 1 3 v) := by
  have hn : ∀ e ∈ LYT, ¬ (e.1 = 1 ∧ e.2.1 = 3) := by decide +kernel
  refine ⟨h.1, h.2.1, fun e he => by rw [gP_uPn (hn e he)]; exact h.2.2.1 e he, ?_, ?_⟩
  · rw [gP_uPn (by decide)]
    exact ly_book h
  · show isBk (up2 w.2.2.2.2 1 3 v 1 3)
    rw [show up2 w.2.2.2.2 1 3 v 1 3 = v from if_pos ⟨rfl, rfl⟩]
    exact hv
theorem ly_ptarget {w : Wo} {v : Nat} {p : Prop} (h : LY w) (_ : p) : LY (uP w 4 3 v) := by
  have hn : ∀ e ∈ LYT, ¬ (e.1 = 4 ∧ e.2.1 = 3) := by decide +kernel
  exact ⟨h.1, h.2.1, fun e he => by rw [gP_uPn (hn e he)]; exact h.2.2.1 e he, by rw [gP_uPn (by decide)]; exact ly_book h, by rw [gP_uPn (by decide)]; exact ly_draft h⟩
theorem lt_o {r : Nat} (h : isLt r) : 0 < r ∧ r ≤ NN ∧ SHf r = (0, 3) := by
  rcases h with rfl | rfl | rfl | rfl | rfl | rfl | rfl <;> decide
theorem lt_r5 {w : Wo} {r : Nat} (hl : LY w) (h : isLt r) : gP w r 5 = r + 1 := by
  rcases h with rfl | rfl | rfl | rfl | rfl | rfl | rfl <;> exact ly_r hl (by decide +kernel)
theorem lt_a5 {r : Nat} (h : isLt r) : 0 < r + 1 ∧ r + 1 ≤ NN ∧ SHf (r + 1) = (2, 4) := by
  rcases h with rfl | rfl | rfl | rfl | rfl | rfl | rfl <;> decide
theorem lt_r6 {w : Wo} {r : Nat} (hl : LY w) (h : isLt r) : gP w r 6 = r + 2 := by
  rcases h with rfl | rfl | rfl | rfl | rfl | rfl | rfl <;> exact ly_r hl (by decide +kernel)
theorem lt_a6 {r : Nat} (h : isLt r) : 0 < r + 2 ∧ r + 2 ≤ NN ∧ SHf (r + 2) = (1, 4) := by
  rcases h with rfl | rfl | rfl | rfl | rfl | rfl | rfl <;> decide
theorem bk_o {r : Nat} (h : isBk r) : 0 < r ∧ r ≤ NN ∧ SHf r = (0, 0) := by
  rcases h with rfl | rfl <;> decide
theorem bk_r0 {w : Wo} {r : Nat} (hl : LY w) (h : isBk r) : gP w r 0 = r + 1 := by
  rcases h with rfl | rfl <;> exact ly_r hl (by decide +kernel)
theorem bk_m0 {r : Nat} (h : isBk r) : isRl (r + 1) := by
  rcases h with rfl | rfl <;> (unfold isRl; decide)
theorem bk_r2 {w : Wo} {r : Nat} (hl : LY w) (h : isBk r) : gP w r 2 = r + 13 := by
  rcases h with rfl | rfl <;> exact ly_r hl (by decide +kernel)
theorem bk_a2 {r : Nat} (h : isBk r) : 0 < r + 13 ∧ r + 13 ≤ NN ∧ SHf (r + 13) = (2, 16) := by
  rcases h with rfl | rfl <;> decide
theorem bk_r3 {w : Wo} {r : Nat} (hl : LY w) (h : isBk r) : gP w r 3 = r + 14 := by
  rcases h with rfl | rfl <;> exact ly_r hl (by decide +kernel)
theorem bk_a3 {r : Nat} (h : isBk r) : 0 < r + 14 ∧ r + 14 ≤ NN ∧ SHf (r + 14) = (1, 16) := by
  rcases h with rfl | rfl <;> decide
theorem bk_r4 {w : Wo} {r : Nat} (hl : LY w) (h : isBk r) : gP w r 4 = r + 15 := by
  rcases h with rfl | rfl <;> exact ly_r hl (by decide +kernel)
theorem bk_a4 {r : Nat} (h : isBk r) : 0 < r + 15 ∧ r + 15 ≤ NN ∧ SHf (r + 15) = (1, 16) := by
  rcases h with rfl | rfl <;> decide
theorem bk_r5 {w : Wo} {r : Nat} (hl : LY w) (h : isBk r) : gP w r 5 = r + 16 := by
  rcases h with rfl | rfl <;> exact ly_r hl (by decide +kernel)
theorem bk_a5 {r : Nat} (h : isBk r) : 0 < r + 16 ∧ r + 16 ≤ NN ∧ SHf (r + 16) = (1, 16) := by
  rcases h with rfl | rfl <;> decide
theorem bk_r6 {w : Wo} {r : Nat} (hl : LY w) (h : isBk r) : gP w r 6 = r + 17 := by
  rcases h with rfl | rfl <;> exact ly_r hl (by decide +kernel)
theorem bk_a6 {r : Nat} (h : isBk r) : 0 < r + 17 ∧ r + 17 ≤ NN ∧ SHf (r + 17) = (1, 16) := by
  rcases h with rfl | rfl <;> decide
theorem bk_r7 {w : Wo} {r : Nat} (hl : LY w) (h : isBk r) : gP w r 7 = r + 18 := by
  rcases h with rfl | rfl <;> exact ly_r hl (by decide +kernel)
theorem bk_a7 {r : Nat} (h : isBk r) : 0 < r + 18 ∧ r + 18 ≤ NN ∧ SHf (r + 18) = (1, 16) := by
  rcases h with rfl | rfl <;> decide
theorem rl_o {r : Nat} (h : isRl r) : 0 < r ∧ r ≤ NN ∧ SHf r = (0, 5) := by
  rcases h with rfl | rfl <;> decide
theorem rl_r1 {w : Wo} {r : Nat} (hl : LY w) (h : isRl r) : gP w r 1 = r + 1 := by
  rcases h with rfl | rfl <;> exact ly_r hl (by decide +kernel)
theorem rl_a1 {r : Nat} (h : isRl r) : 0 < r + 1 ∧ r + 1 ≤ NN ∧ SHf (r + 1) = (1, 30) := by
  rcases h with rfl | rfl <;> decide
theorem rl_r2 {w : Wo} {r : Nat} (hl : LY w) (h : isRl r) : gP w r 2 = r + 2 := by
  rcases h with rfl | rfl <;> exact ly_r hl (by decide +kernel)
theorem rl_a2 {r : Nat} (h : isRl r) : 0 < r + 2 ∧ r + 2 ≤ NN ∧ SHf (r + 2) = (1, 30) := by
  rcases h with rfl | rfl <;> decide
theorem rl_r3 {w : Wo} {r : Nat} (hl : LY w) (h : isRl r) : gP w r 3 = r + 3 := by
  rcases h with rfl | rfl <;> exact ly_r hl (by decide +kernel)
theorem rl_a3 {r : Nat} (h : isRl r) : 0 < r + 3 ∧ r + 3 ≤ NN ∧ SHf (r + 3) = (1, 30) := by
  rcases h with rfl | rfl <;> decide
theorem rl_r4 {w : Wo} {r : Nat} (hl : LY w) (h : isRl r) : gP w r 4 = r + 4 := by
  rcases h with rfl | rfl <;> exact ly_r hl (by decide +kernel)
theorem rl_a4 {r : Nat} (h : isRl r) : 0 < r + 4 ∧ r + 4 ≤ NN ∧ SHf (r + 4) = (1, 30) := by
  rcases h with rfl | rfl <;> decide
theorem rl_r5 {w : Wo} {r : Nat} (hl : LY w) (h : isRl r) : gP w r 5 = r + 5 := by
  rcases h with rfl | rfl <;> exact ly_r hl (by decide +kernel)
theorem rl_a5 {r : Nat} (h : isRl r) : 0 < r + 5 ∧ r + 5 ≤ NN ∧ SHf (r + 5) = (1, 30) := by
  rcases h with rfl | rfl <;> decide
theorem rl_r6 {w : Wo} {r : Nat} (hl : LY w) (h : isRl r) : gP w r 6 = r + 6 := by
  rcases h with rfl | rfl <;> exact ly_r hl (by decide +kernel)
theorem rl_a6 {r : Nat} (h : isRl r) : 0 < r + 6 ∧ r + 6 ≤ NN ∧ SHf (r + 6) = (1, 180) := by
  rcases h with rfl | rfl <;> decide
theorem rl_r7 {w : Wo} {r : Nat} (hl : LY w) (h : isRl r) : gP w r 7 = r + 7 := by
  rcases h with rfl | rfl <;> exact ly_r hl (by decide +kernel)
theorem rl_a7 {r : Nat} (h : isRl r) : 0 < r + 7 ∧ r + 7 ≤ NN ∧ SHf (r + 7) = (1, 180) := by
  rcases h with rfl | rfl <;> decide
theorem rl_r8 {w : Wo} {r : Nat} (hl : LY w) (h : isRl r) : gP w r 8 = r + 8 := by
  rcases h with rfl | rfl <;> exact ly_r hl (by decide +kernel)
theorem rl_a8 {r : Nat} (h : isRl r) : 0 < r + 8 ∧ r + 8 ≤ NN ∧ SHf (r + 8) = (1, 180) := by
  rcases h with rfl | rfl <;> decide
theorem rl_r9 {w : Wo} {r : Nat} (hl : LY w) (h : isRl r) : gP w r 9 = r + 9 := by
  rcases h with rfl | rfl <;> exact ly_r hl (by decide +kernel)
theorem rl_a9 {r : Nat} (h : isRl r) : 0 < r + 9 ∧ r + 9 ≤ NN ∧ SHf (r + 9) = (1, 180) := by
  rcases h with rfl | rfl <;> decide
theorem rl_r10 {w : Wo} {r : Nat} (hl : LY w) (h : isRl r) : gP w r 10 = r + 10 := by
  rcases h with rfl | rfl <;> exact ly_r hl (by decide +kernel)
theorem rl_a10 {r : Nat} (h : isRl r) : 0 < r + 10 ∧ r + 10 ≤ NN ∧ SHf (r + 10) = (1, 180) := by
  rcases h with rfl | rfl <;> decide
theorem rl_r11 {w : Wo} {r : Nat} (hl : LY w) (h : isRl r) : gP w r 11 = r + 11 := by
  rcases h with rfl | rfl <;> exact ly_r hl (by decide +kernel)
theorem rl_a11 {r : Nat} (h : isRl r) : 0 < r + 11 ∧ r + 11 ≤ NN ∧ SHf (r + 11) = (1, 180) := by
  rcases h with rfl | rfl <;> decide
theorem body_n {i : Int} (hi : 0 ≤ i ∧ i < 6) : i.toNat = 0 ∨ i.toNat = 1 ∨ i.toNat = 2 ∨ i.toNat = 3 ∨ i.toNat = 4 ∨ i.toNat = 5 := by omega
theorem body_r {w : Wo} {i : Int} (hi : 0 ≤ i ∧ i < 6) (hl : LY w) : gP w 13 i.toNat = 19 + 3 * i.toNat := by
  rcases body_n hi with h | h | h | h | h | h <;> (rw [h]; exact ly_r hl (by decide +kernel))
theorem body_m {i : Int} (hi : 0 ≤ i ∧ i < 6) : isLt (19 + 3 * i.toNat) := by
  rcases body_n hi with h | h | h | h | h | h <;> (rw [h]; unfold isLt; decide)
