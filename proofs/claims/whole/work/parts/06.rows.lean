section Rows
variable {b bF : Bool} {m : MR} {pc : Nat} {L L' : List (Nat × AV)} {S : List AV} {k : Nat × Nat} {w : Wo} {Q : Option AV → Wo → Prop}
def b_iand (x y : Int) : Int := (Int32.ofInt x &&& Int32.ofInt y).toInt
def b_ior (x y : Int) : Int := (Int32.ofInt x ||| Int32.ofInt y).toInt
def b_ixor (x y : Int) : Int := (Int32.ofInt x ^^^ Int32.ofInt y).toInt
def b_ishl (x y : Int) : Int := (Int32.ofInt x <<< (Int32.ofInt y &&& 31)).toInt
def b_ishr (x y : Int) : Int := (Int32.ofInt x >>> (Int32.ofInt y &&& 31)).toInt
def b_iushr (x y : Int) : Int := ((Int32.ofInt x).toUInt32 >>> ((Int32.ofInt y).toUInt32 &&& Int32.toUInt32 31)).toInt32.toInt
def b_land (x y : Int) : Int := (Int64.ofInt x &&& Int64.ofInt y).toInt
def b_lor (x y : Int) : Int := (Int64.ofInt x ||| Int64.ofInt y).toInt
def b_lshl (x y : Int) : Int := (Int64.ofInt x <<< ((Int32.ofInt y).toInt64 &&& 63)).toInt
def b_lshr (x y : Int) : Int := (Int64.ofInt x >>> ((Int32.ofInt y).toInt64 &&& 63)).toInt
def b_lushr (x y : Int) : Int := ((Int64.ofInt x).toUInt64 >>> ((Int32.ofInt y).toInt64.toUInt64 &&& Int64.toUInt64 63)).toInt64.toInt
def b_l2i (x : Int) : Int := (Int64.ofInt x).toInt32.toInt
def b_lcmp (x y : Int) : Int := if y < x then 1 else if x = y then 0 else -1
theorem r32 (x : Int32) : inr32 x.toInt := ⟨x.le_toInt, x.toInt_lt⟩
theorem r64 (x : Int64) : inr64 x.toInt := ⟨x.le_toInt, x.toInt_lt⟩
theorem i32_lt {x y : Int} (hx : inr32 x) (hy : inr32 y) : Int32.ofInt x < Int32.ofInt y ↔ x < y := by
  rw [Int32.lt_iff_toInt_lt, Int32.toInt_ofInt_of_le hx.1 hx.2, Int32.toInt_ofInt_of_le hy.1 hy.2]
theorem i32_le {x y : Int} (hx : inr32 x) (hy : inr32 y) : Int32.ofInt x ≤ Int32.ofInt y ↔ x ≤ y := by
  rw [Int32.le_iff_toInt_le, Int32.toInt_ofInt_of_le hx.1 hx.2, Int32.toInt_ofInt_of_le hy.1 hy.2]
theorem i32_eq {x y : Int} (hx : inr32 x) (hy : inr32 y) : Int32.ofInt x = Int32.ofInt y ↔ x = y := by
  rw [← Int32.toInt_inj, Int32.toInt_ofInt_of_le hx.1 hx.2, Int32.toInt_ofInt_of_le hy.1 hy.2]
theorem i64_lt {x y : Int} (hx : inr64 x) (hy : inr64 y) : Int64.ofInt x < Int64.ofInt y ↔ x < y := by
  rw [Int64.lt_iff_toInt_lt, Int64.toInt_ofInt_of_le hx.1 hx.2, Int64.toInt_ofInt_of_le hy.1 hy.2]
theorem i64_eq {x y : Int} (hx : inr64 x) (hy : inr64 y) : Int64.ofInt x = Int64.ofInt y ↔ x = y := by
  rw [← Int64.toInt_inj, Int64.toInt_ofInt_of_le hx.1 hx.2, Int64.toInt_ofInt_of_le hy.1 hy.2]
theorem i32_cl {x : Int} (h0 : 0 ≤ x) (h1 : x < 2147483648) : (Int32.ofInt x).toNatClampNeg = x.toNat := Int32.toNatClampNeg_ofInt_of_le (by omega) h1
theorem i32_in {x : Int} {n : Nat} (h0 : 0 ≤ x) (h1 : x < n) (hn : n < 2147483648) : vp_in (Int32.ofInt x) n := by
  rw [vp_in_iff, Int32.toInt_ofInt_of_le (by omega) (by omega)]
  exact ⟨h0, h1⟩
theorem wp_iadd {x y : Int} (hd : decode (cd m) pc = .ok (.iadd, 1)) (ho : inr32 (x + y)) (h : WpG b bF m (pc + 1) L (vi (x + y) :: S) k w Q) : WpG b bF m pc L (vi y :: vi x :: S) k w Q := fun p l e s mm args below meth c G n0 Z H locs ls X Y => by
  have h2 := h p l e s mm args below meth c G n0 Z H locs ls X (Y.stk (okv_cons ho (okv_tl (okv_tl Y.2.2.1))))
  refine lv_iadd X.1 X.2.1 hd ?_
  rw [← Int32.ofInt_add]
  exact h2
theorem wp_isub {x y : Int} (hd : decode (cd m) pc = .ok (.isub, 1)) (ho : inr32 (x - y)) (h : WpG b bF m (pc + 1) L (vi (x - y) :: S) k w Q) : WpG b bF m pc L (vi y :: vi x :: S) k w Q := fun p l e s mm args below meth c G n0 Z H locs ls X Y => by
  have h2 := h p l e s mm args below meth c G n0 Z H locs ls X (Y.stk (okv_cons ho (okv_tl (okv_tl Y.2.2.1))))
  refine lv_isub X.1 X.2.1 hd ?_
  rw [← Int32.ofInt_sub]
  exact h2
theorem wp_imul {x y : Int} (hd : decode (cd m) pc = .ok (.imul, 1)) (ho : inr32 (x * y)) (h : WpG b bF m (pc + 1) L (vi (x * y) :: S) k w Q) : WpG b bF m pc L (vi y :: vi x :: S) k w Q := fun p l e s mm args below meth c G n0 Z H locs ls X Y => by
  have h2 := h p l e s mm args below meth c G n0 Z H locs ls X (Y.stk (okv_cons ho (okv_tl (okv_tl Y.2.2.1))))
  refine lv_imul X.1 X.2.1 hd ?_
  rw [← Int32.ofInt_mul]
  exact h2
theorem wp_ladd {x y : Int} (hd : decode (cd m) pc = .ok (.ladd, 1)) (ho : inr64 (x + y)) (h : WpG b bF m (pc + 1) L (vl (x + y) :: S) k w Q) : WpG b bF m pc L (vl y :: vl x :: S) k w Q := fun p l e s mm args below meth c G n0 Z H locs ls X Y => by
  have h2 := h p l e s mm args below meth c G n0 Z H locs ls X (Y.stk (okv_cons ho (okv_tl (okv_tl Y.2.2.1))))
  refine lv_ladd X.1 X.2.1 hd ?_
  rw [← Int64.ofInt_add]
  exact h2
theorem wp_lsub {x y : Int} (hd : decode (cd m) pc = .ok (.lsub, 1)) (ho : inr64 (x - y)) (h : WpG b bF m (pc + 1) L (vl (x - y) :: S) k w Q) : WpG b bF m pc L (vl y :: vl x :: S) k w Q := fun p l e s mm args below meth c G n0 Z H locs ls X Y => by
  have h2 := h p l e s mm args below meth c G n0 Z H locs ls X (Y.stk (okv_cons ho (okv_tl (okv_tl Y.2.2.1))))
  refine lv_lsub X.1 X.2.1 hd ?_
  rw [← Int64.ofInt_sub]
  exact h2
theorem wp_lmul {x y : Int} (hd : decode (cd m) pc = .ok (.lmul, 1)) (ho : inr64 (x * y)) (h : WpG b bF m (pc + 1) L (vl (x * y) :: S) k w Q) : WpG b bF m pc L (vl y :: vl x :: S) k w Q := fun p l e s mm args below meth c G n0 Z H locs ls X Y => by
  have h2 := h p l e s mm args below meth c G n0 Z H locs ls X (Y.stk (okv_cons ho (okv_tl (okv_tl Y.2.2.1))))
  refine lv_lmul X.1 X.2.1 hd ?_
  rw [← Int64.ofInt_mul]
  exact h2
theorem wp_lneg {x : Int} (hd : decode (cd m) pc = .ok (.lneg, 1)) (ho : inr64 (-x)) (h : WpG b bF m (pc + 1) L (vl (-x) :: S) k w Q) : WpG b bF m pc L (vl x :: S) k w Q := fun p l e s mm args below meth c G n0 Z H locs ls X Y => by
  have h2 := h p l e s mm args below meth c G n0 Z H locs ls X (Y.stk (okv_cons ho (okv_tl Y.2.2.1)))
  refine lv_lneg X.1 X.2.1 hd ?_
  rw [← Int64.ofInt_neg]
  exact h2
theorem wp_iand {x y : Int} (hd : decode (cd m) pc = .ok (.iand, 1)) (h : WpG b bF m (pc + 1) L (vi (b_iand x y) :: S) k w Q) : WpG b bF m pc L (vi y :: vi x :: S) k w Q := fun p l e s mm args below meth c G n0 Z H locs ls X Y => by
  have h2 := h p l e s mm args below meth c G n0 Z H locs ls X (Y.stk (okv_cons (r32 _) (okv_tl (okv_tl Y.2.2.1))))
  refine lv_iand X.1 X.2.1 hd ?_
  have e1 : (vi (b_iand x y) :: S).map (cv G) = .int (Int32.ofInt (b_iand x y)) :: S.map (cv G) := rfl
  rw [e1, b_iand, Int32.ofInt_toInt] at h2
  exact h2
theorem wp_ior {x y : Int} (hd : decode (cd m) pc = .ok (.ior, 1)) (h : WpG b bF m (pc + 1) L (vi (b_ior x y) :: S) k w Q) : WpG b bF m pc L (vi y :: vi x :: S) k w Q := fun p l e s mm args below meth c G n0 Z H locs ls X Y => by
  have h2 := h p l e s mm args below meth c G n0 Z H locs ls X (Y.stk (okv_cons (r32 _) (okv_tl (okv_tl Y.2.2.1))))
  refine lv_ior X.1 X.2.1 hd ?_
  have e1 : (vi (b_ior x y) :: S).map (cv G) = .int (Int32.ofInt (b_ior x y)) :: S.map (cv G) := rfl
  rw [e1, b_ior, Int32.ofInt_toInt] at h2
  exact h2
theorem wp_ixor {x y : Int} (hd : decode (cd m) pc = .ok (.ixor, 1)) (h : WpG b bF m (pc + 1) L (vi (b_ixor x y) :: S) k w Q) : WpG b bF m pc L (vi y :: vi x :: S) k w Q := fun p l e s mm args below meth c G n0 Z H locs ls X Y => by
  have h2 := h p l e s mm args below meth c G n0 Z H locs ls X (Y.stk (okv_cons (r32 _) (okv_tl (okv_tl Y.2.2.1))))
  refine lv_ixor X.1 X.2.1 hd ?_
  have e1 : (vi (b_ixor x y) :: S).map (cv G) = .int (Int32.ofInt (b_ixor x y)) :: S.map (cv G) := rfl
  rw [e1, b_ixor, Int32.ofInt_toInt] at h2
  exact h2
theorem wp_ishl {x y : Int} (hd : decode (cd m) pc = .ok (.ishl, 1)) (h : WpG b bF m (pc + 1) L (vi (b_ishl x y) :: S) k w Q) : WpG b bF m pc L (vi y :: vi x :: S) k w Q := fun p l e s mm args below meth c G n0 Z H locs ls X Y => by
  have h2 := h p l e s mm args below meth c G n0 Z H locs ls X (Y.stk (okv_cons (r32 _) (okv_tl (okv_tl Y.2.2.1))))
  refine lv_ishl X.1 X.2.1 hd ?_
  have e1 : (vi (b_ishl x y) :: S).map (cv G) = .int (Int32.ofInt (b_ishl x y)) :: S.map (cv G) := rfl
  rw [e1, b_ishl, Int32.ofInt_toInt] at h2
  exact h2
theorem wp_ishr {x y : Int} (hd : decode (cd m) pc = .ok (.ishr, 1)) (h : WpG b bF m (pc + 1) L (vi (b_ishr x y) :: S) k w Q) : WpG b bF m pc L (vi y :: vi x :: S) k w Q := fun p l e s mm args below meth c G n0 Z H locs ls X Y => by
  have h2 := h p l e s mm args below meth c G n0 Z H locs ls X (Y.stk (okv_cons (r32 _) (okv_tl (okv_tl Y.2.2.1))))
  refine lv_ishr X.1 X.2.1 hd ?_
  have e1 : (vi (b_ishr x y) :: S).map (cv G) = .int (Int32.ofInt (b_ishr x y)) :: S.map (cv G) := rfl
  rw [e1, b_ishr, Int32.ofInt_toInt] at h2
  exact h2
theorem wp_iushr {x y : Int} (hd : decode (cd m) pc = .ok (.iushr, 1)) (h : WpG b bF m (pc + 1) L (vi (b_iushr x y) :: S) k w Q) : WpG b bF m pc L (vi y :: vi x :: S) k w Q := fun p l e s mm args below meth c G n0 Z H locs ls X Y => by
  have h2 := h p l e s mm args below meth c G n0 Z H locs ls X (Y.stk (okv_cons (r32 _) (okv_tl (okv_tl Y.2.2.1))))
  refine lv_iushr X.1 X.2.1 hd rfl ?_
  have e1 : (vi (b_iushr x y) :: S).map (cv G) = .int (Int32.ofInt (b_iushr x y)) :: S.map (cv G) := rfl
  rw [e1, b_iushr, Int32.ofInt_toInt] at h2
  exact h2
theorem wp_land {x y : Int} (hd : decode (cd m) pc = .ok (.land, 1)) (h : WpG b bF m (pc + 1) L (vl (b_land x y) :: S) k w Q) : WpG b bF m pc L (vl y :: vl x :: S) k w Q := fun p l e s mm args below meth c G n0 Z H locs ls X Y => by
  have h2 := h p l e s mm args below meth c G n0 Z H locs ls X (Y.stk (okv_cons (r64 _) (okv_tl (okv_tl Y.2.2.1))))
  refine lv_land X.1 X.2.1 hd ?_
  have e1 : (vl (b_land x y) :: S).map (cv G) = .long (Int64.ofInt (b_land x y)) :: S.map (cv G) := rfl
  rw [e1, b_land, Int64.ofInt_toInt] at h2
  exact h2
theorem wp_lor {x y : Int} (hd : decode (cd m) pc = .ok (.lor, 1)) (h : WpG b bF m (pc + 1) L (vl (b_lor x y) :: S) k w Q) : WpG b bF m pc L (vl y :: vl x :: S) k w Q := fun p l e s mm args below meth c G n0 Z H locs ls X Y => by
  have h2 := h p l e s mm args below meth c G n0 Z H locs ls X (Y.stk (okv_cons (r64 _) (okv_tl (okv_tl Y.2.2.1))))
  refine lv_lor X.1 X.2.1 hd ?_
  have e1 : (vl (b_lor x y) :: S).map (cv G) = .long (Int64.ofInt (b_lor x y)) :: S.map (cv G) := rfl
  rw [e1, b_lor, Int64.ofInt_toInt] at h2
  exact h2
theorem wp_lshl {x y : Int} (hd : decode (cd m) pc = .ok (.lshl, 1)) (h : WpG b bF m (pc + 1) L (vl (b_lshl x y) :: S) k w Q) : WpG b bF m pc L (vi y :: vl x :: S) k w Q := fun p l e s mm args below meth c G n0 Z H locs ls X Y => by
  have h2 := h p l e s mm args below meth c G n0 Z H locs ls X (Y.stk (okv_cons (r64 _) (okv_tl (okv_tl Y.2.2.1))))
  refine lv_lshl X.1 X.2.1 hd rfl ?_
  have e1 : (vl (b_lshl x y) :: S).map (cv G) = .long (Int64.ofInt (b_lshl x y)) :: S.map (cv G) := rfl
  rw [e1, b_lshl, Int64.ofInt_toInt] at h2
  exact h2
theorem wp_lshr {x y : Int} (hd : decode (cd m) pc = .ok (.lshr, 1)) (h : WpG b bF m (pc + 1) L (vl (b_lshr x y) :: S) k w Q) : WpG b bF m pc L (vi y :: vl x :: S) k w Q := fun p l e s mm args below meth c G n0 Z H locs ls X Y => by
  have h2 := h p l e s mm args below meth c G n0 Z H locs ls X (Y.stk (okv_cons (r64 _) (okv_tl (okv_tl Y.2.2.1))))
  refine lv_lshr X.1 X.2.1 hd rfl ?_
  have e1 : (vl (b_lshr x y) :: S).map (cv G) = .long (Int64.ofInt (b_lshr x y)) :: S.map (cv G) := rfl
  rw [e1, b_lshr, Int64.ofInt_toInt] at h2
  exact h2
theorem wp_lushr {x y : Int} (hd : decode (cd m) pc = .ok (.lushr, 1)) (h : WpG b bF m (pc + 1) L (vl (b_lushr x y) :: S) k w Q) : WpG b bF m pc L (vi y :: vl x :: S) k w Q := fun p l e s mm args below meth c G n0 Z H locs ls X Y => by
  have h2 := h p l e s mm args below meth c G n0 Z H locs ls X (Y.stk (okv_cons (r64 _) (okv_tl (okv_tl Y.2.2.1))))
  refine lv_lushr X.1 X.2.1 hd rfl ?_
  have e1 : (vl (b_lushr x y) :: S).map (cv G) = .long (Int64.ofInt (b_lushr x y)) :: S.map (cv G) := rfl
  rw [e1, b_lushr, Int64.ofInt_toInt] at h2
  exact h2
theorem wp_l2i {x : Int} (hd : decode (cd m) pc = .ok (.l2i, 1)) (h : WpG b bF m (pc + 1) L (vi (b_l2i x) :: S) k w Q) : WpG b bF m pc L (vl x :: S) k w Q := fun p l e s mm args below meth c G n0 Z H locs ls X Y => by
  have h2 := h p l e s mm args below meth c G n0 Z H locs ls X (Y.stk (okv_cons (r32 _) (okv_tl Y.2.2.1)))
  refine lv_l2i X.1 X.2.1 hd rfl ?_
  have e1 : (vi (b_l2i x) :: S).map (cv G) = .int (Int32.ofInt (b_l2i x)) :: S.map (cv G) := rfl
  rw [e1, b_l2i, Int32.ofInt_toInt] at h2
  exact h2
theorem wp_i2l {x : Int} (hd : decode (cd m) pc = .ok (.i2l, 1)) (h : WpG b bF m (pc + 1) L (vl x :: S) k w Q) : WpG b bF m pc L (vi x :: S) k w Q := fun p l e s mm args below meth c G n0 Z H locs ls X Y => by
  have hr : inr32 x := okv_hd Y.2.2.1
  have h2 := h p l e s mm args below meth c G n0 Z H locs ls X (Y.stk (okv_cons (show inr64 x from ⟨by omega, by omega⟩) (okv_tl Y.2.2.1)))
  refine lv_i2l X.1 X.2.1 hd ?_ h2
  rw [← Int64.toInt_inj, Int32.toInt_toInt64, Int32.toInt_ofInt_of_le hr.1 hr.2, Int64.toInt_ofInt_of_le (by omega) (by omega)]
theorem wp_i2b {x : Int} (hd : decode (cd m) pc = .ok (.i2b, 1)) (ho : -128 ≤ x ∧ x < 128) (h : WpG b bF m (pc + 1) L (vi x :: S) k w Q) : WpG b bF m pc L (vi x :: S) k w Q := fun p l e s mm args below meth c G n0 Z H locs ls X Y => by
  have h2 := h p l e s mm args below meth c G n0 Z H locs ls X Y
  refine lv_i2b X.1 X.2.1 hd ?_ h2
  rw [← Int32.toInt_inj, Int8.toInt_toInt32, Int32.toInt_toInt8, Int32.toInt_ofInt_of_le (by omega) (by omega)]
  exact Int.bmod_eq_of_le (by omega) (by omega)
theorem wp_lcmp {x y : Int} (hd : decode (cd m) pc = .ok (.lcmp, 1)) (h : WpG b bF m (pc + 1) L (vi (b_lcmp x y) :: S) k w Q) : WpG b bF m pc L (vl y :: vl x :: S) k w Q := fun p l e s mm args below meth c G n0 Z H locs ls X Y => by
  have hy : inr64 y := okv_hd Y.2.2.1
  have hx : inr64 x := okv_hd (okv_tl Y.2.2.1)
  have hr : inr32 (b_lcmp x y) := by
    unfold b_lcmp
    split
    · decide
    · split <;> decide
  have h2 := h p l e s mm args below meth c G n0 Z H locs ls X (Y.stk (okv_cons hr (okv_tl (okv_tl Y.2.2.1))))
  refine W.lcmp X.1 X.2.1 hd ?_
  have e1 : lg_cmp (Int64.ofInt x) (Int64.ofInt y) = Int32.ofInt (b_lcmp x y) := by
    unfold lg_cmp b_lcmp
    by_cases a : y < x
    · rw [if_pos a, if_pos ((i64_lt hy hx).mpr a)]; rfl
    · rw [if_neg a, if_neg (fun z => a ((i64_lt hy hx).mp z))]
      by_cases c : x = y
      · rw [if_pos c, if_pos ((i64_eq hx hy).mpr c)]; rfl
      · rw [if_neg c, if_neg (fun z => c ((i64_eq hx hy).mp z))]; rfl
  rw [e1]
  exact h2
theorem cat1 {v : AV} (G : Gh) (h : isl v = false) : (cv G v).category = 1 := by
  have h1 := cat_cv G v
  rw [h] at h1
  rcases lv_cat (cv G v) with h2 | h2
  · exact h2
  · rw [h2] at h1; cases h1
theorem wp_dup {v : AV} (hd : decode (cd m) pc = .ok (.dup, 1)) (hv : isl v = false := by rfl) (h : WpG b bF m (pc + 1) L (v :: v :: S) k w Q) : WpG b bF m pc L (v :: S) k w Q := fun p l e s mm args below meth c G n0 Z H locs ls X Y =>
  lv_dup X.1 X.2.1 hd (cat1 G hv) (h p l e s mm args below meth c G n0 Z H locs ls X (Y.stk (okv_cons (okv_hd Y.2.2.1) Y.2.2.1)))
theorem wp_pop {v : AV} (hd : decode (cd m) pc = .ok (.pop, 1)) (hv : isl v = false := by rfl) (h : WpG b bF m (pc + 1) L S k w Q) : WpG b bF m pc L (v :: S) k w Q := fun p l e s mm args below meth c G n0 Z H locs ls X Y =>
  lv_pop X.1 X.2.1 hd (cat1 G hv) (h p l e s mm args below meth c G n0 Z H locs ls X (Y.stk (okv_tl Y.2.2.1)))
theorem wp_dup2 {u v : AV} (hd : decode (cd m) pc = .ok (.dup2, 1)) (hu : isl u = false := by rfl) (hv : isl v = false := by rfl) (h : WpG b bF m (pc + 1) L (u :: v :: u :: v :: S) k w Q) : WpG b bF m pc L (u :: v :: S) k w Q := fun p l e s mm args below meth c G n0 Z H locs ls X Y =>
  lv_dup2_11 X.1 X.2.1 hd (cat1 G hu) (cat1 G hv) (h p l e s mm args below meth c G n0 Z H locs ls X (Y.stk (okv_cons (okv_hd Y.2.2.1) (okv_cons (okv_hd (okv_tl Y.2.2.1)) Y.2.2.1))))
theorem wp_goto {off : Int} {tgt : Nat} (hd : decode (cd m) pc = .ok (.goto off, 3)) (ht : (pc : Int) + off = (tgt : Int)) (h : WpG b bF m tgt L S k w Q) : WpG b bF m pc L S k w Q := fun p l e s mm args below meth c G n0 Z H locs ls X Y =>
  lv_goto X.1 X.2.1 hd ht (h p l e s mm args below meth c G n0 Z H locs ls X Y)
theorem wp_if_eq {x : Int} {off : Int} {tgt : Nat} (hd : decode (cd m) pc = .ok (.ifCond .eq off, 3)) (ht : (pc : Int) + off = (tgt : Int)) (kt : x = 0 → WpG b bF m tgt L S k w Q) (kf : ¬ x = 0 → WpG b bF m (pc + 3) L S k w Q) : WpG b bF m pc L (vi x :: S) k w Q := fun p l e s mm args below meth c G n0 Z H locs ls X Y => by
  have hy : inr32 0 := by decide
  have hx : inr32 x := okv_hd Y.2.2.1
  exact lv_if_eq X.1 X.2.1 hd ht (fun z => kt ((i32_eq hx hy).mp z) p l e s mm args below meth c G n0 Z H locs ls X (Y.stk (okv_tl Y.2.2.1))) (fun z => kf (fun q => z ((i32_eq hx hy).mpr q)) p l e s mm args below meth c G n0 Z H locs ls X (Y.stk (okv_tl Y.2.2.1)))
theorem wp_icmp_eq {x y : Int} {off : Int} {tgt : Nat} (hd : decode (cd m) pc = .ok (.if_icmp .eq off, 3)) (ht : (pc : Int) + off = (tgt : Int)) (kt : x = y → WpG b bF m tgt L S k w Q) (kf : ¬ x = y → WpG b bF m (pc + 3) L S k w Q) : WpG b bF m pc L (vi y :: vi x :: S) k w Q := fun p l e s mm args below meth c G n0 Z H locs ls X Y => by
  have hy : inr32 y := okv_hd Y.2.2.1
  have hx : inr32 x := okv_hd (okv_tl Y.2.2.1)
  exact lv_icmp_eq X.1 X.2.1 hd ht (fun z => kt ((i32_eq hx hy).mp z) p l e s mm args below meth c G n0 Z H locs ls X (Y.stk (okv_tl (okv_tl Y.2.2.1)))) (fun z => kf (fun q => z ((i32_eq hx hy).mpr q)) p l e s mm args below meth c G n0 Z H locs ls X (Y.stk (okv_tl (okv_tl Y.2.2.1))))
theorem wp_if_ne {x : Int} {off : Int} {tgt : Nat} (hd : decode (cd m) pc = .ok (.ifCond .ne off, 3)) (ht : (pc : Int) + off = (tgt : Int)) (kt : ¬ x = 0 → WpG b bF m tgt L S k w Q) (kf : x = 0 → WpG b bF m (pc + 3) L S k w Q) : WpG b bF m pc L (vi x :: S) k w Q := fun p l e s mm args below meth c G n0 Z H locs ls X Y => by
  have hy : inr32 0 := by decide
  have hx : inr32 x := okv_hd Y.2.2.1
  exact lv_if_ne X.1 X.2.1 hd ht (fun z => kt (fun q => z ((i32_eq hx hy).mpr q)) p l e s mm args below meth c G n0 Z H locs ls X (Y.stk (okv_tl Y.2.2.1))) (fun z => kf ((i32_eq hx hy).mp z) p l e s mm args below meth c G n0 Z H locs ls X (Y.stk (okv_tl Y.2.2.1)))
theorem wp_icmp_ne {x y : Int} {off : Int} {tgt : Nat} (hd : decode (cd m) pc = .ok (.if_icmp .ne off, 3)) (ht : (pc : Int) + off = (tgt : Int)) (kt : ¬ x = y → WpG b bF m tgt L S k w Q) (kf : x = y → WpG b bF m (pc + 3) L S k w Q) : WpG b bF m pc L (vi y :: vi x :: S) k w Q := fun p l e s mm args below meth c G n0 Z H locs ls X Y => by
  have hy : inr32 y := okv_hd Y.2.2.1
  have hx : inr32 x := okv_hd (okv_tl Y.2.2.1)
  exact lv_icmp_ne X.1 X.2.1 hd ht (fun z => kt (fun q => z ((i32_eq hx hy).mpr q)) p l e s mm args below meth c G n0 Z H locs ls X (Y.stk (okv_tl (okv_tl Y.2.2.1)))) (fun z => kf ((i32_eq hx hy).mp z) p l e s mm args below meth c G n0 Z H locs ls X (Y.stk (okv_tl (okv_tl Y.2.2.1))))
theorem wp_if_lt {x : Int} {off : Int} {tgt : Nat} (hd : decode (cd m) pc = .ok (.ifCond .lt off, 3)) (ht : (pc : Int) + off = (tgt : Int)) (kt : x < 0 → WpG b bF m tgt L S k w Q) (kf : ¬ x < 0 → WpG b bF m (pc + 3) L S k w Q) : WpG b bF m pc L (vi x :: S) k w Q := fun p l e s mm args below meth c G n0 Z H locs ls X Y => by
  have hy : inr32 0 := by decide
  have hx : inr32 x := okv_hd Y.2.2.1
  exact lv_if_lt X.1 X.2.1 hd ht (fun z => kt ((i32_lt hx hy).mp z) p l e s mm args below meth c G n0 Z H locs ls X (Y.stk (okv_tl Y.2.2.1))) (fun z => kf (fun q => z ((i32_lt hx hy).mpr q)) p l e s mm args below meth c G n0 Z H locs ls X (Y.stk (okv_tl Y.2.2.1)))
theorem wp_icmp_lt {x y : Int} {off : Int} {tgt : Nat} (hd : decode (cd m) pc = .ok (.if_icmp .lt off, 3)) (ht : (pc : Int) + off = (tgt : Int)) (kt : x < y → WpG b bF m tgt L S k w Q) (kf : ¬ x < y → WpG b bF m (pc + 3) L S k w Q) : WpG b bF m pc L (vi y :: vi x :: S) k w Q := fun p l e s mm args below meth c G n0 Z H locs ls X Y => by
  have hy : inr32 y := okv_hd Y.2.2.1
  have hx : inr32 x := okv_hd (okv_tl Y.2.2.1)
  exact lv_icmp_lt X.1 X.2.1 hd ht (fun z => kt ((i32_lt hx hy).mp z) p l e s mm args below meth c G n0 Z H locs ls X (Y.stk (okv_tl (okv_tl Y.2.2.1)))) (fun z => kf (fun q => z ((i32_lt hx hy).mpr q)) p l e s mm args below meth c G n0 Z H locs ls X (Y.stk (okv_tl (okv_tl Y.2.2.1))))
theorem wp_if_ge {x : Int} {off : Int} {tgt : Nat} (hd : decode (cd m) pc = .ok (.ifCond .ge off, 3)) (ht : (pc : Int) + off = (tgt : Int)) (kt : 0 ≤ x → WpG b bF m tgt L S k w Q) (kf : ¬ 0 ≤ x → WpG b bF m (pc + 3) L S k w Q) : WpG b bF m pc L (vi x :: S) k w Q := fun p l e s mm args below meth c G n0 Z H locs ls X Y => by
  have hy : inr32 0 := by decide
  have hx : inr32 x := okv_hd Y.2.2.1
  exact lv_if_ge X.1 X.2.1 hd ht (fun z => kt ((i32_le hy hx).mp z) p l e s mm args below meth c G n0 Z H locs ls X (Y.stk (okv_tl Y.2.2.1))) (fun z => kf (fun q => z ((i32_le hy hx).mpr q)) p l e s mm args below meth c G n0 Z H locs ls X (Y.stk (okv_tl Y.2.2.1)))
theorem wp_icmp_ge {x y : Int} {off : Int} {tgt : Nat} (hd : decode (cd m) pc = .ok (.if_icmp .ge off, 3)) (ht : (pc : Int) + off = (tgt : Int)) (kt : y ≤ x → WpG b bF m tgt L S k w Q) (kf : ¬ y ≤ x → WpG b bF m (pc + 3) L S k w Q) : WpG b bF m pc L (vi y :: vi x :: S) k w Q := fun p l e s mm args below meth c G n0 Z H locs ls X Y => by
  have hy : inr32 y := okv_hd Y.2.2.1
  have hx : inr32 x := okv_hd (okv_tl Y.2.2.1)
  exact lv_icmp_ge X.1 X.2.1 hd ht (fun z => kt ((i32_le hy hx).mp z) p l e s mm args below meth c G n0 Z H locs ls X (Y.stk (okv_tl (okv_tl Y.2.2.1)))) (fun z => kf (fun q => z ((i32_le hy hx).mpr q)) p l e s mm args below meth c G n0 Z H locs ls X (Y.stk (okv_tl (okv_tl Y.2.2.1))))
theorem wp_if_gt {x : Int} {off : Int} {tgt : Nat} (hd : decode (cd m) pc = .ok (.ifCond .gt off, 3)) (ht : (pc : Int) + off = (tgt : Int)) (kt : 0 < x → WpG b bF m tgt L S k w Q) (kf : ¬ 0 < x → WpG b bF m (pc + 3) L S k w Q) : WpG b bF m pc L (vi x :: S) k w Q := fun p l e s mm args below meth c G n0 Z H locs ls X Y => by
  have hy : inr32 0 := by decide
  have hx : inr32 x := okv_hd Y.2.2.1
  exact lv_if_gt X.1 X.2.1 hd ht (fun z => kt ((i32_lt hy hx).mp z) p l e s mm args below meth c G n0 Z H locs ls X (Y.stk (okv_tl Y.2.2.1))) (fun z => kf (fun q => z ((i32_lt hy hx).mpr q)) p l e s mm args below meth c G n0 Z H locs ls X (Y.stk (okv_tl Y.2.2.1)))
theorem wp_icmp_gt {x y : Int} {off : Int} {tgt : Nat} (hd : decode (cd m) pc = .ok (.if_icmp .gt off, 3)) (ht : (pc : Int) + off = (tgt : Int)) (kt : y < x → WpG b bF m tgt L S k w Q) (kf : ¬ y < x → WpG b bF m (pc + 3) L S k w Q) : WpG b bF m pc L (vi y :: vi x :: S) k w Q := fun p l e s mm args below meth c G n0 Z H locs ls X Y => by
  have hy : inr32 y := okv_hd Y.2.2.1
  have hx : inr32 x := okv_hd (okv_tl Y.2.2.1)
  exact lv_icmp_gt X.1 X.2.1 hd ht (fun z => kt ((i32_lt hy hx).mp z) p l e s mm args below meth c G n0 Z H locs ls X (Y.stk (okv_tl (okv_tl Y.2.2.1)))) (fun z => kf (fun q => z ((i32_lt hy hx).mpr q)) p l e s mm args below meth c G n0 Z H locs ls X (Y.stk (okv_tl (okv_tl Y.2.2.1))))
theorem wp_if_le {x : Int} {off : Int} {tgt : Nat} (hd : decode (cd m) pc = .ok (.ifCond .le off, 3)) (ht : (pc : Int) + off = (tgt : Int)) (kt : x ≤ 0 → WpG b bF m tgt L S k w Q) (kf : ¬ x ≤ 0 → WpG b bF m (pc + 3) L S k w Q) : WpG b bF m pc L (vi x :: S) k w Q := fun p l e s mm args below meth c G n0 Z H locs ls X Y => by
  have hy : inr32 0 := by decide
  have hx : inr32 x := okv_hd Y.2.2.1
  exact lv_if_le X.1 X.2.1 hd ht (fun z => kt ((i32_le hx hy).mp z) p l e s mm args below meth c G n0 Z H locs ls X (Y.stk (okv_tl Y.2.2.1))) (fun z => kf (fun q => z ((i32_le hx hy).mpr q)) p l e s mm args below meth c G n0 Z H locs ls X (Y.stk (okv_tl Y.2.2.1)))
theorem wp_icmp_le {x y : Int} {off : Int} {tgt : Nat} (hd : decode (cd m) pc = .ok (.if_icmp .le off, 3)) (ht : (pc : Int) + off = (tgt : Int)) (kt : x ≤ y → WpG b bF m tgt L S k w Q) (kf : ¬ x ≤ y → WpG b bF m (pc + 3) L S k w Q) : WpG b bF m pc L (vi y :: vi x :: S) k w Q := fun p l e s mm args below meth c G n0 Z H locs ls X Y => by
  have hy : inr32 y := okv_hd Y.2.2.1
  have hx : inr32 x := okv_hd (okv_tl Y.2.2.1)
  exact lv_icmp_le X.1 X.2.1 hd ht (fun z => kt ((i32_le hx hy).mp z) p l e s mm args below meth c G n0 Z H locs ls X (Y.stk (okv_tl (okv_tl Y.2.2.1)))) (fun z => kf (fun q => z ((i32_le hx hy).mpr q)) p l e s mm args below meth c G n0 Z H locs ls X (Y.stk (okv_tl (okv_tl Y.2.2.1))))
def swT (dflt lo hi : Int) (offs : Array Int) (x : Int) : Int := if x < lo ∨ hi < x then dflt else offs.getD (x - lo).toNat dflt
theorem swT_lo {dflt lo hi x : Int} {offs : Array Int} (h : x < lo) : swT dflt lo hi offs x = dflt := if_pos (Or.inl h)
theorem swT_hi {dflt lo hi x : Int} {offs : Array Int} (h : hi < x) : swT dflt lo hi offs x = dflt := if_pos (Or.inr h)
theorem wp_tsw {dflt lo hi : Int} {offs : Array Int} {len : Nat} (hd : decode (cd m) pc = .ok (.tableswitch dflt lo hi offs, len)) (hsz : (offs.size : Int) = hi - lo + 1) {x : Int} (tgt : Nat) (ho : (pc : Int) + swT dflt lo hi offs x = (tgt : Int)) (h : WpG b bF m tgt L S k w Q) : WpG b bF m pc L (vi x :: S) k w Q := fun p l e s mm args below meth c G n0 Z H locs ls X Y => by
  have hx : inr32 x := okv_hd Y.2.2.1
  have ex : (Int32.ofInt x).toInt = x := Int32.toInt_ofInt_of_le hx.1 hx.2
  have h2 := h p l e s mm args below meth c G n0 Z H locs ls X (Y.stk (okv_tl Y.2.2.1))
  unfold swT at ho
  by_cases a : x < lo ∨ hi < x
  · rw [if_pos a] at ho
    exact lv_tableOut X.1 X.2.1 hd (by rw [ex]; exact a) ho h2
  · rw [if_neg a] at ho
    have hlt : (x - lo).toNat < offs.size := by omega
    have e1 : offs.getD (x - lo).toNat dflt = offs[(x - lo).toNat] := by simp [Array.getD, hlt]
    rw [e1] at ho
    exact lv_tableIn X.1 X.2.1 hd (by rw [ex]; omega) (by rw [ex]; omega) (by rw [ex]; exact Array.getElem?_eq_getElem hlt) ho h2
theorem wp_lsw {dflt : Int} {ps : Array (Int × Int)} {len : Nat} (hd : decode (cd m) pc = .ok (.lookupswitch dflt ps, len)) (hp : (ps.toList.zip (ps.toList.drop 1)).all (fun (a, next) => a.1 < next.1) = true) {x : Int} (tgt : Nat) (ho : (pc : Int) + Op.lookupswitch.offset ps.toList dflt x = (tgt : Int)) (h : WpG b bF m tgt L S k w Q) : WpG b bF m pc L (vi x :: S) k w Q := fun p l e s mm args below meth c G n0 Z H locs ls X Y => by
  have hx : inr32 x := okv_hd Y.2.2.1
  have ex : (Int32.ofInt x).toInt = x := Int32.toInt_ofInt_of_le hx.1 hx.2
  exact lv_lookup X.1 X.2.1 hd hp (by rw [ex]) ho (h p l e s mm args below meth c G n0 Z H locs ls X (Y.stk (okv_tl Y.2.2.1)))
theorem nar_z0 {x : Int} (h : x = 0 ∨ x = 1) : narrow .boolean (.int (Int32.ofInt x)) = .int (Int32.ofInt x) := by
  rcases h with rfl | rfl <;> decide
theorem wp_nret {x : Int} {ty : FieldType} (hd : decode (cd m) pc = .ok (.ireturn, 1)) (hr : rtt m = some ty) (hk : k.1 ≤ (rmm m).cells ∧ k.2 ≤ (rmm m).slots := by decide) (hn : narrow ty (.int (Int32.ofInt x)) = .int (Int32.ofInt x)) (h : Q (some (vi x)) w) : WpG bF bF m pc L [vi x] k w Q := fun p l e s mm args below meth c G n0 Z H locs ls X Y =>
  X.2.2.2.2.2.2.2.2.2 H locs ls pc k (some (vi x)) w h ⟨lv_sub Y.1 [] rfl, fun q hq => (by cases hq), Y.2.2⟩ hk.1 hk.2 ⟨hd, ty, hr, hn⟩
theorem wp_throw (ht : thr m = true) (hk : k = (0, 0) := by rfl) (h : Q (some (vr pc)) w) : WpG bF bF m pc L [] k w Q := fun p l e s mm args below meth c G n0 Z H locs ls X Y =>
  X.2.2.2.2.2.2.2.2.2 H locs ls pc k (some (vr pc)) w h ⟨lv_sub Y.1 [] rfl, fun q hq => (by cases hq), fun v hv => (by cases hv), Y.2.2.2⟩ (by rw [hk]; exact Nat.zero_le _) (by rw [hk]; exact Nat.zero_le _) ⟨ht, rfl, hk⟩
theorem wp_ldcw {idx : Nat} (hd : decode (cd m) pc = .ok (.ldc_w idx, 3)) {x : Int} (hc : Jvm.Cond.constant (yy m).cls idx (Int32.ofInt x) ∈ AW) (hr : inr32 x) (h : WpG b bF m (pc + 3) L (vi x :: S) k w Q) : WpG b bF m pc L S k w Q := fun p l e s mm args below meth c G n0 Z H locs ls X Y =>
  lv_ldcw X.1 X.2.1 X.2.2.2.1 (X.2.2.2.2.1 _ hc) hd (h p l e s mm args below meth c G n0 Z H locs ls X (Y.stk (okv_cons hr Y.2.2.1)))
theorem wp_i2c {x : Int} (hd : decode (cd m) pc = .ok (.i2c, 1)) (ho : 0 ≤ x ∧ x < 65536) (h : WpG b bF m (pc + 1) L (vi x :: S) k w Q) : WpG b bF m pc L (vi x :: S) k w Q := fun p l e s mm args below meth c G n0 Z H locs ls X Y => by
  have h2 := h p l e s mm args below meth c G n0 Z H locs ls X Y
  obtain ⟨n, rfl⟩ := Int.eq_ofNat_of_zero_le ho.1
  refine lv_i2c X.1 X.2.1 hd ?_ h2
  have e : Int32.ofInt (n : Int) = nI n := Int32.ofInt_eq_ofNat
  have hn : n < 65536 := by omega
  rw [e, pk_char, pk_tn (by omega), Nat.mod_eq_of_lt hn]
theorem wp_vret (hd : decode (cd m) pc = .ok (.return_, 1)) (hr : rtt m = none) (hk : k.1 ≤ (rmm m).cells ∧ k.2 ≤ (rmm m).slots := by decide) (h : Q none w) : WpG bF bF m pc L [] k w Q := fun p l e s mm args below meth c G n0 Z H locs ls X Y =>
  X.2.2.2.2.2.2.2.2.2 H locs ls pc k none w h ⟨lv_sub Y.1 [] rfl, fun q hq => (by cases hq), fun v hv => (by cases hv), Y.2.2.2⟩ hk.1 hk.2 ⟨hd, hr⟩
theorem wp_iret {x : Int} (hd : decode (cd m) pc = .ok (.ireturn, 1)) (hr : rtt m = some .int) (hk : k.1 ≤ (rmm m).cells ∧ k.2 ≤ (rmm m).slots := by decide) (h : Q (some (vi x)) w) : WpG bF bF m pc L [vi x] k w Q := fun p l e s mm args below meth c G n0 Z H locs ls X Y =>
  X.2.2.2.2.2.2.2.2.2 H locs ls pc k (some (vi x)) w h ⟨lv_sub Y.1 [] rfl, fun q hq => (by cases hq), Y.2.2⟩ hk.1 hk.2 ⟨hd, .int, hr, rfl⟩
theorem wp_zret {x : Int} (hd : decode (cd m) pc = .ok (.ireturn, 1)) (hr : rtt m = some .boolean) (hk : k.1 ≤ (rmm m).cells ∧ k.2 ≤ (rmm m).slots := by decide) (hx : x = 0 ∨ x = 1) (h : Q (some (vi x)) w) : WpG bF bF m pc L [vi x] k w Q := fun p l e s mm args below meth c G n0 Z H locs ls X Y =>
  X.2.2.2.2.2.2.2.2.2 H locs ls pc k (some (vi x)) w h ⟨lv_sub Y.1 [] rfl, fun q hq => (by cases hq), Y.2.2⟩ hk.1 hk.2 ⟨hd, .boolean, hr, nar_z0 hx⟩
theorem wp_lret {x : Int} (hd : decode (cd m) pc = .ok (.lreturn, 1)) (hr : rtt m = some .long) (hk : k.1 ≤ (rmm m).cells ∧ k.2 ≤ (rmm m).slots := by decide) (h : Q (some (vl x)) w) : WpG bF bF m pc L [vl x] k w Q := fun p l e s mm args below meth c G n0 Z H locs ls X Y =>
  X.2.2.2.2.2.2.2.2.2 H locs ls pc k (some (vl x)) w h ⟨lv_sub Y.1 [] rfl, fun q hq => (by cases hq), Y.2.2⟩ hk.1 hk.2 ⟨hd, hr⟩
end Rows
