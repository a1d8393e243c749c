section Rows
variable {b bF : Bool} {m : MR} {pc : Nat} {L L' : List (Nat × AV)} {S : List AV} {k : Nat × Nat} {w : Wo} {Q : Option AV → Wo → Prop}
/-! the strings that the class reads, and copying of longs -/
theorem mp_sp {G : Gh} {q : Nat} {S : List AV} (h : 1000 < q) : (vr q :: S).map (cv G) = .ref (gA G q) :: S.map (cv G) := by
  show va_rf (cr G q) :: _ = _
  unfold cr
  rw [if_neg (by omega), if_neg (by omega)]
  rfl
theorem Wy.S0 {G : Gh} {n0 : Nat} {s : State} {n : Nat} {H : Heap} {locs : List Loc} {ls : Array Slot} (Y : Wy b G n0 s n L S w H locs ls) (hB : gB G < s.heap.size) : va_S (fun q => gB G < q) s.heap H locs := by
  have hS := Y.2.2.2.2.2.2.1
  have hsub : ∀ q, fr (gB G) n0 s.heap.size q → gB G < q := fun q hq => by
    unfold fr at hq
    omega
  exact ⟨hS.1, fun q h1 h2 => hS.2.1 q h1 (fun z => h2 (hsub q z)), fun l hl => hsub _ (hS.2.2 l hl)⟩
theorem wp_ldcS {idx : Nat} (i : Nat) {tx : String} (hd : decode (cd m) pc = .ok (.ldc idx, 2)) (hi : stT[i]? = some ((yy m).cls, idx, tx)) (h : WpG b bF m (pc + 2) L (vr (1001 + i) :: S) k w Q) : WpG b bF m pc L S k w Q := fun p l e s mm args below meth c G n0 Z H locs ls X Y => by
  have hZ := X.2.2.2.2.2.1.2.1.2.1 i _ hi
  have hh := h p l e s mm args below meth c G n0 Z H locs ls X (Y.stk (okv_cons trivial Y.2.2.1))
  rw [mp_sp (by omega)] at hh
  exact va_ldcS X.1 X.2.1 X.2.2.2.1 hZ hd hh
theorem wp_compact {idx : Nat} (hd : decode (cd m) pc = .ok (.getstatic idx, 3)) (hl : Cond.fieldLink (yy m).cls idx "java/lang/String" "COMPACT_STRINGS" "Z" ∈ AW) (h : WpG b bF m (pc + 3) L (vi 1 :: S) k w Q) : WpG b bF m pc L S k w Q := fun p l e s mm args below meth c G n0 Z H locs ls X Y =>
  va_gets X.1 X.2.1 X.2.2.2.2.2.1.2.1.2.2.1 (Y.S0 X.2.2.2.2.2.1.2.2) X.2.2.2.1 (X.2.2.2.2.1 _ hl) (fun _ h9 => h9) hd (h p l e s mm args below meth c G n0 Z H locs ls X (Y.stk (okv_cons (show inr32 1 by decide) Y.2.2.1)))
theorem wp_sioobe {idx : Nat} (hd : decode (cd m) pc = .ok (.getstatic idx, 3)) (hl : Cond.fieldLink (yy m).cls idx "jdk/internal/util/Preconditions" "SIOOBE_FORMATTER" "Ljava/util/function/BiFunction;" ∈ AW) (h : ∀ q, WpG b bF m (pc + 3) L (vr q :: S) k w Q) : WpG b bF m pc L S k w Q := fun p l e s mm args below meth c G n0 Z H locs ls X Y => by
  obtain ⟨q, -, hZ⟩ := X.2.2.2.2.2.1.2.1.2.2.2.1
  exact va_gets X.1 X.2.1 hZ (Y.S0 X.2.2.2.2.2.1.2.2) X.2.2.2.1 (X.2.2.2.2.1 _ hl) (fun _ h9 => h9) hd (h q p l e s mm args below meth c G n0 Z H locs ls X (Y.stk (okv_cons trivial Y.2.2.1)))
theorem wp_coder {idx i : Nat} (hi : i < 5) (hd : decode (cd m) pc = .ok (.getfield idx, 3)) (hl : Cond.fieldLink (yy m).cls idx "java/lang/String" "coder" "B" ∈ AW) (h : WpG b bF m (pc + 3) L (vi 0 :: S) k w Q) : WpG b bF m pc L (vr (1001 + i) :: S) k w Q := fun p l e s mm args below meth c G n0 Z H locs ls X Y => by
  have hE := (X.2.2.2.2.2.1.2.1.1.1 i hi).2.1
  rw [mp_sp (by omega)]
  exact vk_getf X.1 X.2.1 hE (Y.S0 X.2.2.2.2.2.1.2.2) X.2.2.2.1 (X.2.2.2.2.1 _ hl) (fun _ h9 => h9) hd (h p l e s mm args below meth c G n0 Z H locs ls X (Y.stk (okv_cons (show inr32 0 by decide) (okv_tl Y.2.2.1))))
theorem wp_svalue {idx i : Nat} (hi : i < 5) (hd : decode (cd m) pc = .ok (.getfield idx, 3)) (hl : Cond.fieldLink (yy m).cls idx "java/lang/String" "value" "[B" ∈ AW) (h : WpG b bF m (pc + 3) L (vr (2001 + i) :: S) k w Q) : WpG b bF m pc L (vr (1001 + i) :: S) k w Q := fun p l e s mm args below meth c G n0 Z H locs ls X Y => by
  have hE := (X.2.2.2.2.2.1.2.1.1.1 i hi).2.2.1
  have hh := h p l e s mm args below meth c G n0 Z H locs ls X (Y.stk (okv_cons trivial (okv_tl Y.2.2.1)))
  rw [mp_sp (by omega)] at hh
  rw [mp_sp (by omega)]
  exact vk_getf X.1 X.2.1 hE (Y.S0 X.2.2.2.2.2.1.2.2) X.2.2.2.1 (X.2.2.2.2.1 _ hl) (fun _ h9 => h9) hd hh
theorem wp_svlen {i : Nat} (hi : i < 5) (hd : decode (cd m) pc = .ok (.arraylength, 1)) (h : WpG b bF m (pc + 1) L (vi ((stN.getD i 0 : Nat) : Int) :: S) k w Q) : WpG b bF m pc L (vr (2001 + i) :: S) k w Q := fun p l e s mm args below meth c G n0 Z H locs ls X Y => by
  have hT := (X.2.2.2.2.2.1.2.1.1.1 i hi).2.2.2
  have hn : stN.getD i 0 ≤ 5 := by
    have h5 : ∀ j, j < 5 → stN.getD j 0 ≤ 5 := by decide
    exact h5 i hi
  have hh := h p l e s mm args below meth c G n0 Z H locs ls X (Y.stk (okv_cons (show inr32 ((stN.getD i 0 : Nat) : Int) from ⟨by omega, by omega⟩) (okv_tl Y.2.2.1)))
  rw [mp_sp (by omega)]
  exact va_tlen X.1 X.2.1 hT (Y.S0 X.2.2.2.2.2.1.2.2) (Int32.ofInt_eq_ofNat).symm hd hh
theorem stB_rng : ∀ i, i < 5 → ∀ j, j < stN.getD i 0 → inr32 (((stB.getD i []).getD j 0).toInt) := fun i _ j _ => r32 _
theorem wp_svld {i : Nat} {x : Int} (hi : i < 5) (hx : 0 ≤ x ∧ x < ((stN.getD i 0 : Nat) : Int)) (hd : decode (cd m) pc = .ok (.baload, 1)) (h : WpG b bF m (pc + 1) L (vi (((stB.getD i []).getD x.toNat 0).toInt) :: S) k w Q) : WpG b bF m pc L (vi x :: vr (2001 + i) :: S) k w Q := fun p l e s mm args below meth c G n0 Z H locs ls X Y => by
  have hT := (X.2.2.2.2.2.1.2.1.1.1 i hi).2.2.2
  have hn : stN.getD i 0 ≤ 5 := by
    have h5 : ∀ j, j < 5 → stN.getD j 0 ≤ 5 := by decide
    exact h5 i hi
  have hh := h p l e s mm args below meth c G n0 Z H locs ls X (Y.stk (okv_cons (r32 _) (okv_tl (okv_tl Y.2.2.1))))
  rw [List.map_cons, mp_sp (by omega)]
  refine va_tb X.1 X.2.1 hT (Y.S0 X.2.2.2.2.2.1.2.2) (i32_in hx.1 hx.2 (by omega)) rfl hd ?_
  rw [i32_cl hx.1 (by omega)]
  have e1 : (vi (((stB.getD i []).getD x.toNat 0).toInt) :: S).map (cv G) = .int (Int32.ofInt (((stB.getD i []).getD x.toNat 0).toInt)) :: S.map (cv G) := rfl
  rw [e1, Int32.ofInt_toInt] at hh
  exact hh
/-- a call on a string -/
theorem wp_callT {c : MR} {idx i : Nat} {A St : List AV} (hi : i < 5) (hd : decode (cd m) pc = .ok (.invokevirtual idx, 3)) (hc : CaP m c A.length) (hl : Cond.methodLink (yy m).cls idx (yy c) ∈ AW) (hin : Cond.instanceMethod (yy c) ∈ AW) (hse : Cond.selects (yy c).cls (yy c) (yy c) ∈ AW) (hcs : (yy c).cls = "java/lang/String")
    (hst : St = A.reverse ++ vr (1001 + i) :: S) (hW : (S.map catA).sum ≤ 8) (hk : k.1 + (rmm c).cells ≤ (rmm m).cells ∧ k.2 + (rmm c).slots ≤ (rmm m).slots)
    (hM : MetS b c (vr (1001 + i) :: A) w (fun r w' => WpG b bF m (pc + 3) L (r.toList ++ S) (k.1 + (rmm c).cells, k.2 + (rmm c).slots) w' Q)) : WpG b bF m pc L St k w Q := fun p l e s mm args below meth c0 G n0 Z H locs ls X Y => by
  subst hst
  have hoA : ∀ v ∈ A, okv v := fun v hv => Y.2.2.1 v (List.mem_append_left _ (List.mem_reverse.mpr hv))
  have hoS : ∀ v ∈ S, okv v := fun v hv => Y.2.2.1 v (List.mem_append_right _ (List.mem_cons_of_mem _ hv))
  have hM2 := hM l G H.size X.2.2.2.2.2.2.2.1 (okv_cons trivial hoA)
  rw [mp_sp (by omega)] at hM2
  have hrc := vk_recv X.2.2.2.2.2.1.2.1.1 hi (Y.S0 X.2.2.2.2.2.1.2.2)
  refine run_k (va_runV (b := gA G (1001 + i)) (As := A.map (cv G)) (C := (yy c).cls) (n := A.length) (nL := nLo m) ⟨X.1, X.2.1, X.2.2.1, X.2.2.2.1, X.2.2.2.2.1⟩ hM2 ⟨callB_c hc hl X.2.2.2.2.1, X.2.2.2.2.1 _ hin, X.2.2.2.2.1 _ hse⟩ ⟨blindC, by rw [hcs]; exact hrc, fun U hU hW2 => ⟨rfl, by rw [hU], X.2.2.2.2.2.1.moved hW2 hU Y.2.2.2.2.2.2.1, by rw [hU]; exact Y.2.2.2.1, Y.2.2.2.2.1, by rw [hU]; exact Y.2.2.2.2.2.1, Y.2.2.2.2.2.2.2.2.2⟩⟩ rfl (by rw [List.length_map]) Y.1.1 ?_ ?_ hd hk) X Y hoS (fun r w' h => h)
  · show (A.reverse ++ vr (1001 + i) :: S).map (cv G) = _
    rw [List.map_append, mp_sp (by omega), List.map_reverse]
  · show 0 + ((S.map (cv G)).map fun v => v.category).sum ≤ 8
    rw [catS_eq, Nat.zero_add]
    exact hW
/-- copying n longs -/
def cpJ (w : Wo) (a0 sp a dp n : Nat) : Wo := (w.1, w.2.1, w.2.2.1, (fun b j => if b = a ∧ dp ≤ j ∧ j < dp + n then gJ w a0 (sp + (j - dp)) else w.2.2.2.1 b j), w.2.2.2.2)
theorem InS.cpJ {w : Wo} (h : InS w) {a0 sp a dp n : Nat} : InS (cpJ w a0 sp a dp n) := by
  refine ⟨h.1, fun b j => ?_⟩
  show inr64 (if b = a ∧ dp ≤ j ∧ j < dp + n then gJ w a0 (sp + (j - dp)) else gJ w b j)
  split
  · exact h.2 _ _
  · exact h.2 _ _
theorem wL_cpJ {G : Gh} {w : Wo} {a0 sp a dp n : Nat} (h0 : 0 < a) (ht : (wsh w a).1 = 2) : (wL G w).set (a - 1) (gB G + a, .inl (gC G 2, (wsh w a).2, .inr (.inl (va_cpy (fun j => Int64.ofInt (gJ w a0 j)) (fun j => Int64.ofInt (gJ w a j)) sp dp n)))) = wL G (cpJ w a0 sp a dp n) := by
  refine wL_upd h0 rfl ?_ (fun _ => rfl) (fun o i ho => ⟨rfl, if_neg (fun z => ho z.1), rfl⟩)
  unfold cE
  have hs : wsh (cpJ w a0 sp a dp n) a = wsh w a := rfl
  rw [hs, ht]
  have e : (fun j => Int64.ofInt (gJ (cpJ w a0 sp a dp n) a j)) = va_cpy (fun j => Int64.ofInt (gJ w a0 j)) (fun j => Int64.ofInt (gJ w a j)) sp dp n := by
    funext j
    show Int64.ofInt (if a = a ∧ dp ≤ j ∧ j < dp + n then gJ w a0 (sp + (j - dp)) else gJ w a j) = _
    unfold va_cpy
    by_cases hj : dp ≤ j ∧ j < dp + n
    · rw [if_pos ⟨rfl, hj⟩, if_pos hj]
    · rw [if_neg (fun z => hj z.2), if_neg hj]
  rw [← e]
  rfl
theorem wp_acopy {idx a0 a : Nat} {sp dp n : Int} {n0 n1 : Nat} (hd : decode (cd m) pc = .ok (.invokestatic idx, 3)) (hl : Cond.methodLink (yy m).cls idx arraycopyName ∈ AW) (hnat : Cond.native arraycopyName ∈ AW) (hsta : Cond.static arraycopyName ∈ AW) (hini : Cond.initialized "java/lang/System" ∈ AW)
    (h0 : oq w a0 (2, n0)) (h1 : oq w a (2, n1)) (hN0 : n0 < 2147483648) (hN1 : n1 < 2147483648) (hb : 0 ≤ sp ∧ 0 ≤ dp ∧ 0 ≤ n ∧ sp + n ≤ n0 ∧ dp + n ≤ n1) (hf : 1 ≤ (rmm m).frames) (hlo : (S.map catA).sum + (nativeFrameWords "java/lang/System" "arraycopy" 5 + 11) ≤ (rmm m).locals)
    (h : ∀ w', w' = cpJ w a0 sp.toNat a dp.toNat n.toNat → WpG true bF m (pc + 3) L S k w' Q) : WpG true bF m pc L (vi n :: vi dp :: vr a :: vi sp :: vr a0 :: S) k w Q := fun p l e s mm args below meth c G n0x Z H locs ls X Y => by
  have hq0 : a0 ≤ 1000 := Nat.le_trans h0.2.1 Y.2.2.2.2.2.2.2.2.2
  have hq1 : a ≤ 1000 := Nat.le_trans h1.2.1 Y.2.2.2.2.2.2.2.2.2
  have e0 : (wsh w a0).2 = n0 := by rw [h0.2.2]
  have e1 : (wsh w a).2 = n1 := by rw [h1.2.2]
  have t0 : (wsh w a0).1 = 2 := by rw [h0.2.2]
  have t1 : (wsh w a).1 = 2 := by rw [h1.2.2]
  have c0 : (Int32.ofInt sp).toNatClampNeg = sp.toNat := i32_cl hb.1 (by omega)
  have c1 : (Int32.ofInt dp).toNatClampNeg = dp.toNat := i32_cl hb.2.1 (by omega)
  have c2 : (Int32.ofInt n).toNatClampNeg = n.toNat := i32_cl hb.2.2.1 (by omega)
  have nn : ∀ x : Int, 0 ≤ x → x < 2147483648 → ¬ Int32.ofInt x < 0 := fun x hx hx2 z => by
    have := (i32_lt (x := x) (y := 0) ⟨by omega, hx2⟩ (by decide)).mp z
    omega
  rw [List.map_cons, List.map_cons, mp_ref h1.1 hq1, List.map_cons, mp_ref h0.1 hq0]
  refine va_copyl X.1 X.2.1 (by rw [X.2.2.1]; exact Y.1.1.symm) X.2.2.2.1 (X.2.2.2.2.1 _ hl) (X.2.2.2.2.1 _ hnat) (X.2.2.2.2.1 _ hsta) (X.2.2.2.2.1 _ hini) X.2.2.2.2.2.1.1 Y.2.2.2.1 (wL_D Y.2.2.2.2.2.2.2.2.1) Y.2.2.2.2.2.2.1 (a0 - 1) (a - 1) 1 1 (cE_long h0.1 h0.2.1 t0) (cE_long h1.1 h1.2.1 t1) rfl rfl rfl (nn sp hb.1 (by omega)) (nn dp hb.2.1 (by omega)) (nn n hb.2.2.1 (by omega)) ?_ ?_ (fun _ _ => rfl) hf ?_ hd (fun H1 locs1 hP hD hS => ?_)
  · rw [c0, c2, e0]; omega
  · rw [c1, c2, e1]; omega
  · rw [catS_eq]; exact hlo
  · rw [c0, c1, c2, wL_cpJ h1.1 t1] at hP
    exact h _ rfl p l e s mm args below meth c G n0x Z H1 locs1 ls X (Y.put hP hS Y.2.2.2.2.1.cpJ Y.2.2.2.2.2.1 rfl (okv_tl (okv_tl (okv_tl (okv_tl (okv_tl Y.2.2.1))))))
end Rows
