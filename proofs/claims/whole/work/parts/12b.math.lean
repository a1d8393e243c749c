section Rows
variable {b bF : Bool} {m : MR} {pc : Nat} {L : List (Nat × AV)} {S : List AV} {k : Nat × Nat} {w : Wo} {Q : Option AV → Wo → Prop}
theorem wp_mmax {idx : Nat} {x y : Int} (hd : decode (cd m) pc = .ok (.invokestatic idx, 3)) (hl : Cond.methodLink (yy m).cls idx Lib.Math.max.name ∈ AW) (hst : Cond.static Lib.Math.max.name ∈ AW) (hini : Cond.initialized "java/lang/Math" ∈ AW) (hc : Cond.code Lib.Math.max.name Lib.Math.max.code 2 (some .int) ∈ AW) (hf : 1 ≤ (rmm m).frames) (hlo : (S.map catA).sum + 13 ≤ (rmm m).locals) (hk : k.1 ≤ (rmm m).cells ∧ k.2 ≤ (rmm m).slots) (h : WpG b bF m (pc + 3) L (vi (if x < y then y else x) :: S) k w Q) : WpG b bF m pc L (vi y :: vi x :: S) k w Q := fun p l e s mm args below meth c G n0 Z H locs ls X Y => by
  have hy : inr32 y := okv_hd Y.2.2.1
  have hx : inr32 x := okv_hd (okv_tl Y.2.2.1)
  have hr : inr32 (if x < y then y else x) := by
    split
    · assumption
    · assumption
  have h2 := h p l e s mm args below meth c G n0 Z H locs ls X (Y.stk (okv_cons hr (okv_tl (okv_tl Y.2.2.1))))
  refine va_mmax X.1 X.2.1 (by rw [X.2.2.1]; exact Y.1.1.symm) X.2.2.2.1 (X.2.2.2.2.1 _ hl) (X.2.2.2.2.1 _ hst) (X.2.2.2.2.1 _ hini) (X.2.2.2.2.1 _ hc) hf (by rw [catS_eq]; exact hlo) hk.1 hk.2 hd ?_
  have e : (if Int32.ofInt x < Int32.ofInt y then Int32.ofInt y else Int32.ofInt x) = Int32.ofInt (if x < y then y else x) := by
    by_cases a : x < y
    · rw [if_pos a, if_pos ((i32_lt hx hy).mpr a)]
    · rw [if_neg a, if_neg (fun z => a ((i32_lt hx hy).mp z))]
  rw [e]
  exact h2
theorem wp_mmin {idx : Nat} {x y : Int} (hd : decode (cd m) pc = .ok (.invokestatic idx, 3)) (hl : Cond.methodLink (yy m).cls idx Lib.Math.min.name ∈ AW) (hst : Cond.static Lib.Math.min.name ∈ AW) (hini : Cond.initialized "java/lang/Math" ∈ AW) (hc : Cond.code Lib.Math.min.name Lib.Math.min.code 2 (some .int) ∈ AW) (hf : 1 ≤ (rmm m).frames) (hlo : (S.map catA).sum + 13 ≤ (rmm m).locals) (hk : k.1 ≤ (rmm m).cells ∧ k.2 ≤ (rmm m).slots) (h : WpG b bF m (pc + 3) L (vi (if y < x then y else x) :: S) k w Q) : WpG b bF m pc L (vi y :: vi x :: S) k w Q := fun p l e s mm args below meth c G n0 Z H locs ls X Y => by
  have hy : inr32 y := okv_hd Y.2.2.1
  have hx : inr32 x := okv_hd (okv_tl Y.2.2.1)
  have hr : inr32 (if y < x then y else x) := by
    split
    · assumption
    · assumption
  have h2 := h p l e s mm args below meth c G n0 Z H locs ls X (Y.stk (okv_cons hr (okv_tl (okv_tl Y.2.2.1))))
  refine va_mmin X.1 X.2.1 (by rw [X.2.2.1]; exact Y.1.1.symm) X.2.2.2.1 (X.2.2.2.2.1 _ hl) (X.2.2.2.2.1 _ hst) (X.2.2.2.2.1 _ hini) (X.2.2.2.2.1 _ hc) hf (by rw [catS_eq]; exact hlo) hk.1 hk.2 hd ?_
  have e : (if Int32.ofInt y < Int32.ofInt x then Int32.ofInt y else Int32.ofInt x) = Int32.ofInt (if y < x then y else x) := by
    by_cases a : y < x
    · rw [if_pos a, if_pos ((i32_lt hy hx).mpr a)]
    · rw [if_neg a, if_neg (fun z => a ((i32_lt hy hx).mp z))]
  rw [e]
  exact h2
end Rows
