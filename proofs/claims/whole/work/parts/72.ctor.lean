/-! rows for constructors, with the world named -/
theorem oq_nw {w : Wo} {p : Nat} {sh s2 : Nat × Nat} (h : oq w p sh) : oq (nw w s2) p sh := ⟨h.1, Nat.le_succ_of_le h.2.1, (if_neg (Nat.ne_of_lt (Nat.lt_succ_of_le h.2.1))).trans h.2.2⟩
theorem oq_self {w : Wo} {sh : Nat × Nat} : oq (nw w sh) (wn w + 1) sh := ⟨Nat.succ_pos _, Nat.le_refl _, if_pos rfl⟩
theorem gP_nw {w : Wo} {p j : Nat} {s2 : Nat × Nat} (h : p ≤ wn w) : gP (nw w s2) p j = gP w p j := if_neg (Nat.ne_of_lt (Nat.lt_succ_of_le h))
/-- w' stands n cells behind w, keeps shapes, and references of all cells but q -/
def StC (q n : Nat) (w w' : Wo) : Prop := wn w' = wn w + n ∧ (∀ p sh, oq w p sh → oq w' p sh) ∧ ∀ p j, p ≤ wn w → p ≠ q → gP w' p j = gP w p j
theorem StC.rf {q : Nat} {w : Wo} : StC q 0 w w := ⟨rfl, fun _ _ h => h, fun _ _ _ _ => rfl⟩
theorem StC.nw {q n : Nat} {w w' : Wo} {sh : Nat × Nat} (h : StC q n w w') : StC q (n + 1) w (nw w' sh) := ⟨congrArg (· + 1) h.1, fun p s hp => oq_nw (h.2.1 p s hp), fun p j hp hq => (gP_nw (by rw [h.1]; omega)).trans (h.2.2 p j hp hq)⟩
theorem StC.uP {q n p0 j0 v : Nat} {w w' : Wo} (h : StC q n w w') (hp : p0 = q ∨ wn w < p0) : StC q n w (uP w' p0 j0 v) := ⟨h.1, fun p s hp => h.2.1 p s hp, fun p j h1 h2 => by
  rw [gP_uPn (fun z => by rcases hp with rfl | hp <;> omega)]
  exact h.2.2 p j h1 h2⟩
theorem StC.call {q n q2 n2 : Nat} {w w' w2 : Wo} (h : StC q n w w') (h2 : StC q2 n2 w' w2) (hq : q2 = q ∨ wn w < q2) : StC q (n + n2) w w2 := ⟨by rw [h2.1, h.1, Nat.add_assoc], fun p s hp => h2.2.1 p s (h.2.1 p s hp), fun p j h3 h4 => (h2.2.2 p j (by rw [h.1]; omega) (by omega)).trans (h.2.2 p j h3 h4)⟩
section NewG
variable {bF : Bool} {m : MR} {pc : Nat} {L : List (Nat × AV)} {S : List AV} {k : Nat × Nat} {w : Wo} {Q : Option AV → Wo → Prop}
theorem wp_newG {idx ci n : Nat} (hn : wn w = n) (hd : decode (cd m) pc = .ok (.new idx, 3)) (hc : ClP ci) (hl : NLP m idx ci) (hdf : DFP ci) (hw : n < 1000) {k2 : Nat × Nat} (hk2 : (k.1 + 1, k.2 + nf ci) = k2) (hk : k2.1 ≤ (rmm m).cells ∧ k2.2 ≤ (rmm m).slots)
    (h : ∀ w1, w1 = nw w (0, ci) → wn w1 = n + 1 → oq w1 (n + 1) (0, ci) → WpG false bF m (pc + 3) L (vr (n + 1) :: S) k2 w1 Q) : WpG false bF m pc L S k w Q := by
  subst hn hk2
  exact wp_new hd hc hl hdf hw hk (h _ rfl rfl oq_self)
theorem wp_newarrG {atype : ArrayType} {t N n : Nat} {ty : FieldType} (hn : wn w = n) (hd : decode (cd m) pc = .ok (.newarray atype, 2)) (hty : newarray.typeOf atype = ty) (ht : (t = 1 ∧ ty = .int) ∨ (t = 2 ∧ ty = .long) ∨ (t = 3 ∧ ty = .byte) ∨ (t = 4 ∧ ty = .boolean)) (hac : Cond.arrayClass ty ∈ AW) (hN : N ≤ 65536) (hw : n < 1000) {k2 : Nat × Nat} (hk2 : (k.1 + 1, k.2 + N) = k2) (hk : k2.1 ≤ (rmm m).cells ∧ k2.2 ≤ (rmm m).slots)
    (h : ∀ w1, w1 = nw w (t, N) → wn w1 = n + 1 → oq w1 (n + 1) (t, N) → WpG false bF m (pc + 2) L (vr (n + 1) :: S) k2 w1 Q) : WpG false bF m pc L (vi (N : Int) :: S) k w Q := by
  subst hn hk2
  exact wp_newarr hd hty ht hac hN hw hk (h _ rfl rfl oq_self)
theorem wp_anewLitG {idx N n : Nat} (hn : wn w = n) (hd : decode (cd m) pc = .ok (.anewarray idx, 3)) (hl : Cond.classLink (yy m).cls idx RLit ∈ AW) (hN : N ≤ 65536) (hw : n < 1000) {k2 : Nat × Nat} (hk2 : (k.1 + 1, k.2 + N) = k2) (hk : k2.1 ≤ (rmm m).cells ∧ k2.2 ≤ (rmm m).slots)
    (h : ∀ w1, w1 = nw w (5, N) → wn w1 = n + 1 → oq w1 (n + 1) (5, N) → WpG false bF m (pc + 3) L (vr (n + 1) :: S) k2 w1 Q) : WpG false bF m pc L (vi (N : Int) :: S) k w Q := by
  subst hn hk2
  exact wp_anewLit hd hl hN hw hk (h _ rfl rfl oq_self)
theorem wp_putC {idx ci j q v : Nat} {fin : Bool} (hd : decode (cd m) pc = .ok (.putfield idx, 3)) (hf : FLP (yy m).cls idx ci j fin) (hfi : fin = false ∨ (yy m).name = "<init>") (hdc : fin = false ∨ ∃ T, clT[ci]? = some ((yy m).cls, T, nf ci)) (hc : ClP ci) (ht : fty ci j = 5 ∧ ((∃ n, tyF ci j = .object n) ∨ ∃ t, tyF ci j = .array t)) (hq : oq w q (0, ci)) (h : ∀ w', w' = uP w q j v → WpG false bF m (pc + 3) L S k w' Q) : WpG false bF m pc L (vr v :: vr q :: S) k w Q :=
  wp_putP hd hf hfi hdc hc ht hq (fun h => by cases h) h
def nwLk (t : String × Nat × MethodName × String) : Prop := t ∈ NWL
theorem wp_callCN {c : MR} {idx q : Nat} {A St : List AV} {b : Bool} (hd : decode (cd m) pc = .ok (.invokespecial idx, 3)) (hc : CaP m c A.length) (hrt : rtt c = none) (hl : ((yy m).cls, idx, yy c, "PlanDesk") ∈ NWL) (hin : Cond.instanceMethod (yy c) ∈ AW) (hnm : (yy c).name = "<init>") (hq0 : 0 < q) (hq : q ≤ 1000)
    (hst : St = A.reverse ++ vr q :: S) (hW : (S.map catA).sum ≤ 8) (hk : k.1 + (rmm c).cells ≤ (rmm m).cells ∧ k.2 + (rmm c).slots ≤ (rmm m).slots)
    (hM : MetS b c (vr q :: A) w (fun r w' => WpG b bF m (pc + 3) L (r.toList ++ S) (k.1 + (rmm c).cells, k.2 + (rmm c).slots) w' Q)) : WpG b bF m pc L St k w Q := fun p l e s mm args below meth c0 G n0 Z H locs ls X Y => by
  subst hst
  have hoA : ∀ v ∈ A, okv v := fun v hv => Y.2.2.1 v (List.mem_append_left _ (List.mem_reverse.mpr hv))
  have hoS : ∀ v ∈ S, okv v := fun v hv => Y.2.2.1 v (List.mem_append_right _ (List.mem_cons_of_mem _ hv))
  have hM2 := hM l G H.size X.2.2.2.2.2.2.2.1 (okv_cons trivial hoA)
  rw [mp_ref hq0 hq] at hM2
  have hnl := X.2.2.2.2.2.1.2.1.2.2.2.2.2.1 _ hl
  have hcb := va_cnB (R := rmm m) (args := args) (s := s) (maxL := nLo c) (bytes := cd c) (ret := rtt c) (rm := rmm c) A.length X.2.2.2.2.1 (goodC hc.1) rfl rfl rfl hnl (X.2.2.2.2.1 _ hc.2.1) ⟨hc.2.2.1.1, hc.2.2.1.2, hc.2.2.2.1⟩ hc.2.2.2.2
  rw [hrt] at hcb
  refine run_k (va_runIN (b := gB G + q) (As := A.map (cv G)) (n := A.length) (nL := nLo m) ⟨X.1, X.2.1, X.2.2.1, X.2.2.2.1, X.2.2.2.2.1⟩ hM2 ⟨hcb, hnm, X.2.2.2.2.1 _ hin⟩ ⟨blindC, fun U hU hW2 => ⟨rfl, by rw [hU], X.2.2.2.2.2.1.moved hW2 hU Y.2.2.2.2.2.2.1, by rw [hU]; exact Y.2.2.2.1, Y.2.2.2.2.1, by rw [hU]; exact Y.2.2.2.2.2.1, Y.2.2.2.2.2.2.2.2.2⟩⟩ rfl (by rw [List.length_map]) Y.1.1 ?_ ?_ hd hk) X Y hoS (fun r w' h => h)
  · show (A.reverse ++ vr q :: S).map (cv G) = _
    rw [List.map_append, mp_ref hq0 hq, List.map_reverse]
  · show 0 + ((S.map (cv G)).map fun v => v.category).sum ≤ 8
    rw [catS_eq, Nat.zero_add]
    exact hW
end NewG
