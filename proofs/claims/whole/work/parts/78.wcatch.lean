/-! the road over a handler -/
theorem w_catch {m : MR} {Q : Option AV → Wo → Prop} {p : Program} {l : Launch} {e : Env} {s : State} {mm : MethodId} {args : Array Value} {below : List Frame} {meth : Method} {c : Code} {G : Gh} {n0 : Nat} {Z : State → Prop} {H : Heap} {locs : List Loc} {ls : Array Slot} {L : List (Nat × AV)} {St S A : List AV} {w : Wo} {pc : Nat} {k : Nat × Nat} {cM : MR} {idx q ci : Nat} {cls : String} {Qw : Wo → Prop}
    (X : Wx m Q p l e s mm args below meth c true G n0 Z) (Y : Wy true G n0 s (nLo m) L St w H locs ls) (hd : decode (cd m) pc = .ok (.invokevirtual idx, 3)) (hvl : VLP m cM idx A.length ci) (hq : oq w q (0, ci))
    (hst : St = A.reverse ++ vr q :: S) (hW : (S.map catA).sum ≤ 8) (hk : k.1 + (rmm cM).cells ≤ (rmm m).cells ∧ k.2 + (rmm cM).slots ≤ (rmm m).slots) (hM : MetTS cM (vr q :: A) w cls Qw)
    {x0 x1 hp ct : Nat} (hx : xtb c = [(x0, x1, hp, ct)]) (hcov : x0 ≤ pc ∧ pc < x1) (h0 : ct ≠ 0) (hlink : Cond.classLink (yy m).cls ct cls ∈ AW)
    (hkk : ∀ (H' : Heap) (locs' : List Loc) (a : Addr) (w' : Wo), Qw w' → Wy true G n0 s (nLo m) L [] w' H' locs' ls → W p l e (rmm m) s mm args below meth c H' locs' (k.1 + (rmm cM).cells) (k.2 + (rmm cM).slots) Z (F0 mm hp ls [.ref a])) :
    W p l e (rmm m) s mm args below meth c H locs k.1 k.2 Z (F0 mm pc ls (St.map (cv G))) := by
  subst hst
  obtain ⟨hc, hl, hin, hse, Tc, hci⟩ := hvl
  have hoA : ∀ v ∈ A, okv v := fun v hv => Y.2.2.1 v (List.mem_append_left _ (List.mem_reverse.mpr hv))
  have hq1 : q ≤ 1000 := Nat.le_trans hq.2.1 Y.2.2.2.2.2.2.2.2.2
  have hM2 := hM l G H.size X.2.2.2.2.2.2.2.1 (okv_cons trivial hoA)
  rw [mp_ref hq.1 hq1] at hM2
  have hts := X.2.2.2.2.1
  obtain ⟨x, hx2, hxx⟩ : ∃ x : ExceptionTableEntry, c.exceptionTable.toList = [] ++ x :: [] ∧ (x.startPc, x.endPc, x.handlerPc, x.catchType) = (x0, x1, hp, ct) := by
    unfold xtb at hx
    cases hl9 : c.exceptionTable.toList with
    | nil => rw [hl9] at hx; cases hx
    | cons y t =>
      rw [hl9, List.map_cons] at hx
      injection hx with h1 h2
      cases t with
      | nil => exact ⟨y, rfl, h1⟩
      | cons z t => cases h2
  injection hxx with hx3 hxx
  injection hxx with hx4 hxx
  injection hxx with hx5 hx6
  obtain ⟨cellB, hcB, hoB, hclB⟩ := va_recv X.2.2.2.2.2.1.1 Y.2.2.2.1 hci (cE_obj hq)
  intro T hT X0
  have hcode := hts _ hc.1
  have hini := hts _ hc.2.1
  have hK : BackT l (rmm m) p e below s args (yy cM) 3 8 (PreOf (rmm m) (rmm cM).cells (rmm cM).slots (va_Pc ((Value.ref (gB G + q) :: A.map (cv G))) (PcC true G H.size w))) (PostT (QcT G (wn w) H.size cls Qw) (rmm cM).cells (rmm cM).slots (fr (gB G) (wn w) H.size)) :=
    backT_of (bytes := cd cM) (maxL := nLo cM) (ret := rtt cM) hM2 blindC rfl rfl hc.2.2.2.2.1 hc.2.2.2.2.2 (pay_in hts (goodC hc.1)) List.mem_cons_self (fun a' U hW => word_at hW (Or.inl (by first | rfl | simp [Cond.onTables, Cond.keeps, Cond.steady])) hini)
  obtain ⟨v, vm₁, ⟨U', l2, c2, s2⟩, hW₁, X', ⟨g', mk, t, L0, e1, e2, hq2, h1, hL, h2, h3⟩, st⟩ := callVT X0 X.1 (C := (yy cM).cls) (bytes := cd cM) (maxL := nLo cM) (ret := rtt cM) X.2.2.2.1 (hts _ hl) (hts _ hin) (hts _ hse) hcode hc.2.2.1 hK (b := gB G + q) (by rw [hT]; exact hcB) hoB hclB (g := F0 mm pc ls ((A.reverse ++ vr q :: S).map (cv G))) rfl (by rw [X.2.2.1]; exact Y.1.1) (argsL := A.map (cv G)) (rest := S.map (cv G))
    (fun sig h => by
      have h9 := hc.2.2.2.1
      rw [h] at h9
      rw [List.length_map]
      exact (Option.some.inj h9).symm) (by
      show (A.reverse ++ vr q :: S).map (cv G) = _
      rw [List.map_append, mp_ref hq.1 hq1, List.map_reverse]) (by
      show 0 + ((S.map (cv G)).map fun v => v.category).sum ≤ 8
      rw [catS_eq, Nat.zero_add]
      exact hW) (by rw [X.2.1]; exact hd)
    (fun vm₁ hW₁ => ⟨hk.1, hk.2, rfl, by show T.heap.size = _; rw [hT], X.2.2.2.2.2.1.moved (U := T.setVm vm₁) hW₁ hT Y.2.2.2.2.2.2.1, by show va_P _ _ _ T.heap; rw [hT]; exact Y.2.2.2.1, Y.2.2.2.2.1, Y.2.2.2.2.2.1, Y.2.2.2.2.2.2.2.2.2⟩)
  dsimp only [Pt.U, Pt.locs, Pt.cells, Pt.slots] at X' e1 e2 h1 h2 h3 st
  subst h1; subst h2; subst h3
  obtain ⟨⟨a, ce, w', hw, ho, hce1, hce2, hce3, hce4, hP, hi, hI, hn1, hn2, hn3⟩, hz, hkp⟩ := hq2
  cases ho
  have hce3' : s.vm.findClass cls = some ce.cls := by rw [← hW₁.alike.findClass]; exact hce3
  have hce4' : s.vm.assignable ce.cls ce.cls = true := by rw [← hW₁.alike.assignable]; exact hce4
  obtain ⟨vm', X'', st2⟩ := X'.caughtLink v (g := F0 mm pc ls (S.map (cv G))) rfl X.2.2.2.1 [] x [] hx2 (fun y hy => by cases hy) (by
    simp only [covers, hx3, hx4, Bool.and_eq_true, decide_eq_true_eq]
    exact hcov) (by rw [hx6]; exact h0) (by rw [hx6]; exact hts _ hlink) hce3' (by rw [e1]; exact hce1) (by rw [hce2]; rfl) hce4'
  have hTz : ((T.setVm vm₁).calling g' mk (Value.ref (gB G + q) :: A.map (cv G)).toArray).heap = H := hT
  rw [hTz] at hz hkp
  have hS := Y.2.2.2.2.2.2.1
  have hc1 := Y.2.2.2.2.2.2.2.1
  have hc2 := Y.2.2.2.2.2.2.2.2.1
  have hsub : ∀ q, fr (gB G) (wn w) H.size q → fr (gB G) n0 s.heap.size q := by
    intro q hq
    have h9 := hS.1
    unfold fr at hq ⊢
    omega
  have Y' : Wy true G n0 s (nLo m) L [] w' U'.heap (locs ++ L0) ls := by
    refine ⟨Y.1, Y.2.1, fun v hv => (by cases hv), by rw [e1]; exact hP, hi, hI, ⟨Nat.le_trans hS.1 (by rw [e1]; exact hz), fun q h1 h2 => ?_, fun q hq => ?_⟩, by omega, ?_, hn3⟩
    · rw [e1, hkp q (Nat.lt_of_lt_of_le h1 hS.1) (fun z => h2 (hsub q z))]
      exact hS.2.1 q h1 h2
    · rcases List.mem_append.mp hq with h | h
      · exact hS.2.2 q h
      · exact hsub _ (hL q h)
    · have h9 := hS.1
      omega
  obtain ⟨t2, a2, b2⟩ := hkk U'.heap (locs ++ L0) v w' hw Y' (U'.setVm vm') rfl X''
  refine ⟨t2, st.trans ?_, b2⟩
  rw [X'.pushThrowing_eq]
  refine st2 t2 ?_
  rw [hx5]
  exact a2
