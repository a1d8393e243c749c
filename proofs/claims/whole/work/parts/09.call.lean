def wsm (m : MR) : List Cond := Cond.code (yy m) (cd m) (nLo m) (rtt m) :: AW
def Qcc (b : Bool) (G : Gh) (n0 sz : Nat) (Q : Option AV → Wo → Prop) : Array Value → State → Outcome → State → Prop := fun _ st o t =>
  (∃ (r : Option AV) (w' : Wo), Q r w' ∧ o = .returned (r.map (cv G)) ∧ (∀ v ∈ r.toList, okv v) ∧ va_P (gD G) clT (wL G w') t.heap ∧ InS w' ∧ Inv b G w' t.heap ∧ n0 ≤ wn w' ∧ (wn w' ≤ n0 ∨ sz ≤ gB G + n0 + 1) ∧ wn w' ≤ 1000) ∧ va_F (fr (gB G) n0 sz) st t
def PcC (b : Bool) (G : Gh) (sz : Nat) (w : Wo) (U : State) : Prop := U.heap.size = sz ∧ KK G U ∧ va_P (gD G) clT (wL G w) U.heap ∧ InS w ∧ Inv b G w U.heap ∧ wn w ≤ 1000
/-- THE CONTRACT of method m, called with As in world w: it returns, with Q -/
def MetS (b : Bool) (m : MR) (As : List AV) (w : Wo) (Q : Option AV → Wo → Prop) : Prop := ∀ (l : Launch) (G : Gh) (sz : Nat), l.stackTraces = false → (∀ v ∈ As, okv v) → Met l (yy m) (wsm m) (rmm m) (va_Pc (As.map (cv G)) (PcC b G sz w)) (Qcc b G (wn w) sz Q) (rmm m).cells (rmm m).slots (fr (gB G) (wn w) sz)
abbrev MetI (m : MR) (As : List AV) (w : Wo) (K : Int → Wo → Prop) : Prop := MetS true m As w (fun r w' => ∃ x, r = some (vi x) ∧ K x w')
abbrev MetJ (m : MR) (As : List AV) (w : Wo) (K : Int → Wo → Prop) : Prop := MetS true m As w (fun r w' => ∃ x, r = some (vl x) ∧ K x w')
abbrev MetV (m : MR) (As : List AV) (w : Wo) (K : Wo → Prop) : Prop := MetS true m As w (fun r w' => r = none ∧ K w')
theorem Met.imp {l : Launch} {y : MethodName} {ws : List Cond} {rm : Room} {Pc : Array Value → State → Prop} {Qc Qc' : Array Value → State → Outcome → State → Prop} {mc ms : Nat} {free : Addr → Prop} (h : Met l y ws rm Pc Qc mc ms free) (hq : ∀ a st o t, Qc a st o t → Qc' a st o t) : Met l y ws rm Pc Qc' mc ms free := by
  intro p e h1 h2 h3 s m args below h4 h5 h6 h7
  obtain ⟨n, o, a1, a2, a3, a4, a5⟩ := h p e h1 h2 h3 s m args below h4 h5 h6 h7
  exact ⟨n, o, a1, a2, a3, hq _ _ _ _ a4, a5⟩
theorem MetS.mono {b : Bool} {m : MR} {As : List AV} {w : Wo} {Q Q' : Option AV → Wo → Prop} (h : MetS b m As w Q) (hq : ∀ r w', Q r w' → Q' r w') : MetS b m As w Q' := fun l G sz hl ho =>
  Met.imp (h l G sz hl ho) (fun a st o t hh => by
    obtain ⟨⟨r, w', h1, h2⟩, h3⟩ := hh
    exact ⟨⟨r, w', hq r w' h1, h2⟩, h3⟩)
theorem KK.moved {G : Gh} {s U : State} {H : Heap} {locs : List Loc} {n0 : Nat} (hW : s.WarmedH U.vm) (hU : U.heap = H) (hS : va_S (fr (gB G) n0 s.heap.size) s.heap H locs) (h : KK G s) : KK G U := ⟨va_K.moved hW.alike h.1, SK.moved hW (fun a h1 h2 => by
  rw [hU]
  refine hS.2.1 a h1 (fun z => ?_)
  unfold fr at z
  omega) h.2.1, by rw [hU]; exact Nat.lt_of_lt_of_le h.2.2 hS.1⟩
theorem KK.calling {G : Gh} {U : State} {g : JFrame} {mk : MethodId} {a : Array Value} (h : KK G U) : KK G (U.calling g mk a) := ⟨va_K.moved (u := U) (U := U.calling g mk a) (Vm.Alike.refl U.vm) h.1, SK.calling h.2.1, h.2.2⟩
theorem blindC {b : Bool} {G : Gh} {sz : Nat} {w : Wo} {av : List Value} : FrameBlind (va_Pc av (PcC b G sz w)) := fun a U g mk q => by
  obtain ⟨q0, q1, q2, q3⟩ := q
  exact ⟨q0, q1, q2.calling, q3⟩
def argL : Nat → List AV → List (Nat × AV)
  | _, [] => []
  | i, v :: t => (i, v) :: argL (if isl v then i + 2 else i + 1) t
theorem argL_map (G : Gh) (As : List AV) : ∀ i, lv_args i (As.map (cv G)) = (argL i As).map (fun q => (q.1, cv G q.2)) := by
  induction As with
  | nil => intro i; rfl
  | cons v t ih =>
    intro i
    rw [List.map_cons]
    unfold lv_args argL
    rw [List.map_cons]
    have h1 := cat_cv G v
    cases hv : isl v
    · rw [hv] at h1
      have h2 : ¬ (cv G v).category = 2 := fun z => by rw [z] at h1; cases h1
      rw [if_neg h2, ih]
      rfl
    · rw [hv] at h1
      have h2 : (cv G v).category = 2 := by simpa using h1
      rw [if_pos h2, ih]
      rfl
def slL : List AV → Nat
  | [] => 0
  | v :: t => (if isl v then 2 else 1) + slL t
theorem slL_eq (G : Gh) (As : List AV) : (lg_sl (As.map (cv G))).length = slL As := by
  induction As with
  | nil => rfl
  | cons v t ih =>
    rw [List.map_cons]
    unfold lg_sl slL
    rw [List.flatMap_cons, List.length_append]
    unfold lg_sl at ih
    rw [ih]
    have h1 := cat_cv G v
    cases hv : isl v
    · rw [hv] at h1
      have h2 : ¬ (cv G v).category = 2 := fun z => by rw [z] at h1; cases h1
      rw [if_neg h2]
      rfl
    · rw [hv] at h1
      have h2 : (cv G v).category = 2 := by simpa using h1
      rw [if_pos h2]
      rfl
/-- a walk of the body is the contract -/
theorem met_of {b : Bool} {m : MR} {As : List AV} {w : Wo} {Q : Option AV → Wo → Prop} (hy : plainName (yy m).cls = true) (hth : thr m = false) (hn : slL As ≤ nLo m) (h : WpG b b m 0 (argL 0 As) [] (0, 0) w Q) : MetS b m As w Q := fun l G sz hlt ho => by
  refine Met.ofW (cc := cd m) (maxL := nLo m) (ret := rtt m) hy rfl ?_
  intro p e s mm args below meth c s₁ B hml hv
  obtain ⟨rfl, hsz, hK, hP, hi, hI, h1000⟩ := hv
  subst hsz
  have hts := atoms_spec (ws := wsm m) B.pre
  have hlocks := B.notSynchronized
  have hl := lv_entry (As.map (cv G)) (n := nLo m) (by rw [slL_eq]; exact hn)
  rw [lg_entry_eq]
  generalize (lg_sl (As.map (cv G)) ++ List.replicate (nLo m - (lg_sl (As.map (cv G))).length) Slot.unset).toArray = ls at hl ⊢
  rw [argL_map] at hl
  refine h p l e s mm _ below meth c G (wn w) _ s.heap [] ls ⟨B.exec, B.bytes, hml, findClass_of_methodNamed B.named, fun x hx => hts x (List.mem_cons_of_mem _ hx), hK, (name_of_methodNamed B.named B.method).1, hlt, fun xs hxs => absurd hxs (scr_none hth xs), ?_⟩ ⟨hl, ?_, fun v hv => (by cases hv), hP, hi, hI, va_S.rf, Nat.le_refl _, Or.inl (Nat.le_refl _), h1000⟩
  · intro H locs ls' pc k r w' hQ hY hk1 hk2 hR
    refine W.widen (k := (rmm m).cells) (n := (rmm m).slots) hk1 hk2 ?_
    have hS := hY.2.2.2.2.2.2.1
    have hrv : ∀ v ∈ r.toList, okv v := by
      rcases r with _ | x | x | x
      · exact fun v hv => (by cases hv)
      · exact hY.2.2.1
      · exact hY.2.2.1
      · exact absurd (hth.symm.trans hR.1) (by decide)
    have fin : ∀ (v : Option Value), v = r.map (cv G) → ∀ t : State, t.heap = H → Qcc b G (wn w) s.heap.size Q (As.map (cv G)).toArray s (.returned v) t := fun v hv t ht => ⟨⟨r, w', hQ, by rw [hv], hrv, by rw [ht]; exact hY.2.2.2.1, hY.2.2.2.2.1, by rw [ht]; exact hY.2.2.2.2.2.1, hY.2.2.2.2.2.2.2⟩, hS.F ht⟩
    rcases r with _ | x | x | x
    · exact W.vret B.exec B.bytes (B.returns.trans hR.2) (fun t ht _ => fin none rfl t ht) hS.2.2 hR.1
    · obtain ⟨hd, ty, hr, hn⟩ := hR
      exact W.zret B.exec B.bytes (B.returns.trans hr) hn (fun t ht _ => fin _ rfl t ht) hS.2.2 hd
    · exact W.lret B.exec B.bytes (B.returns.trans hR.2) (fun t ht _ => fin _ rfl t ht) hS.2.2 hR.1
    · exact absurd (hth.symm.trans hR.1) (by decide)
  · intro q hq
    have hall : ∀ (As : List AV) (i : Nat), ∀ q ∈ argL i As, q.2 ∈ As := by
      intro As
      induction As with
      | nil => intro i q hq; cases hq
      | cons v t ih =>
        intro i q hq
        unfold argL at hq
        rcases List.mem_cons.mp hq with rfl | h2
        · exact List.mem_cons_self
        · exact List.mem_cons_of_mem _ (ih _ q h2)
    exact ho _ (hall As 0 q hq)
section Calls
variable {b bF : Bool} {m : MR} {pc : Nat} {L : List (Nat × AV)} {S : List AV} {k : Nat × Nat} {w : Wo} {Q : Option AV → Wo → Prop}
theorem run_k {p : Program} {l : Launch} {e : Env} {s : State} {mm : MethodId} {args : Array Value} {below : List Frame} {meth : Method} {c : Code} {G : Gh} {n0 : Nat} {Z : State → Prop} {H : Heap} {locs : List Loc} {ls : Array Slot} {mc ms : Nat} {st : List Value} {S0 : List AV} {a : Array Value} {Qx : Option AV → Wo → Prop}
    (hr : va_Run p l e (rmm m) s mm args below meth c H locs k.1 k.2 mc ms (F0 mm pc ls st) (S.map (cv G)) (Qcc b G (wn w) H.size Qx a) (fr (gB G) (wn w) H.size)) (X : Wx m Q p l e s mm args below meth c bF G n0 Z) (Y : Wy b G n0 s (nLo m) L S0 w H locs ls) (hs : ∀ v ∈ S, okv v)
    (hx : ∀ r w', Qx r w' → WpG b bF m (pc + 3) L (r.toList ++ S) (k.1 + mc, k.2 + ms) w' Q) : W p l e (rmm m) s mm args below meth c H locs k.1 k.2 Z (F0 mm pc ls st) := by
  intro T hT X0
  obtain ⟨v, st₀, t, T', L0, h0, X', hL, e1, e2, ⟨⟨r, w', hq, hv, ho, hP, hi, hI, hn1, hn2, hn3⟩, hz, hk⟩, stp⟩ := hr T hT X0
  cases hv
  rw [h0] at hz hk
  have hS := Y.2.2.2.2.2.2.1
  have hc1 := Y.2.2.2.2.2.2.2.1
  have hc2 := Y.2.2.2.2.2.2.2.2.1
  have hsub : ∀ q, fr (gB G) (wn w) H.size q → fr (gB G) n0 s.heap.size q := by
    intro q hq
    have h9 := hS.1
    unfold fr at hq ⊢
    omega
  have Y' : Wy b G n0 s (nLo m) L (r.toList ++ S) w' T'.heap (locs ++ L0) ls := by
    refine ⟨Y.1, Y.2.1, fun v hv => ?_, by rw [e1]; exact hP, hi, by rw [e1]; exact hI, ⟨Nat.le_trans hS.1 (by rw [e1]; exact hz), fun q h1 h2 => ?_, fun q hq => ?_⟩, by omega, ?_, hn3⟩
    · rcases List.mem_append.mp hv with h | h
      · exact ho v h
      · exact hs v h
    · rw [e1, hk q (Nat.lt_of_lt_of_le h1 hS.1) (fun z => h2 (hsub q z))]
      exact hS.2.1 q h1 h2
    · rcases List.mem_append.mp hq with h | h
      · exact hS.2.2 q h
      · exact hsub _ (hL q h)
    · have h9 := hS.1
      omega
  have hh := hx r w' hq p l e s mm args below meth c G n0 Z T'.heap (locs ++ L0) ls X Y'
  obtain ⟨t2, a1, b1⟩ := hh T' rfl X'
  refine ⟨t2, stp t2 ?_, b1⟩
  have e3 : (r.toList ++ S).map (cv G) = (r.map (cv G)).toList ++ S.map (cv G) := by
    rw [List.map_append]
    cases r <;> rfl
  rw [e3] at a1
  exact a1
def catA (v : AV) : Nat := if isl v then 2 else 1
theorem catA_eq (G : Gh) (v : AV) : (cv G v).category = catA v := by
  have h1 := cat_cv G v
  unfold catA
  cases hv : isl v
  · exact cat1 G hv
  · rw [hv] at h1
    have h2 : (cv G v).category = 2 := by simpa using h1
    rw [h2]; rfl
theorem catS_eq (G : Gh) (S : List AV) : ((S.map (cv G)).map fun v => v.category).sum = (S.map catA).sum := by
  rw [List.map_map]
  congr 1
  refine List.map_congr_left (fun v _ => ?_)
  exact catA_eq G v
/-- what the tables say of a callee c with n arguments, called in m -/
def CaP (m c : MR) (n : Nat) : Prop := Cond.code (yy c) (cd c) (nLo c) (rtt c) ∈ AW ∧ Cond.initialized (yy c).cls ∈ AW ∧ ((yy c).cls ≠ "java/lang/invoke/MethodHandle" ∧ (yy c).cls ≠ "java/lang/invoke/VarHandle") ∧ (parseMethodDescriptor (yy c).desc).map (fun d => d.parameters.length) = some n ∧ ((rmm c).frames + 1 ≤ (rmm m).frames ∧ 8 + (nLo c + 11) + (rmm c).locals ≤ (rmm m).locals)
theorem goodC {c : MR} (h : Cond.code (yy c) (cd c) (nLo c) (rtt c) ∈ AW) : GoodIn AW (wsm c) := fun x hx => by
  have hin : x ∈ AW := by
    rcases List.mem_cons.mp hx with rfl | h2
    · exact h
    · exact h2
  exact ⟨hin, AW_good x hin⟩
theorem callB_c {s : State} {args : Array Value} {c : MR} {n idx : Nat} (h : CaP m c n) (hl : Cond.methodLink (yy m).cls idx (yy c) ∈ AW) (hts : ∀ w ∈ AW, w.before args s = true) : CallB (rmm m) s args (yy m).cls idx (yy c) (cd c) (nLo c) (rtt c) (wsm c) (rmm c) (rmm c).cells (rmm c).slots n :=
  callB_of n hts (goodC h.1) rfl rfl rfl (hts _ h.2.1) (hts _ hl) ⟨h.2.2.1.1, h.2.2.1.2, h.2.2.2.1⟩ h.2.2.2.2
/-- a virtual call: pool entry idx of m's class is method c, with n arguments, of class ci -/
def VLP (m c : MR) (idx n ci : Nat) : Prop := CaP m c n ∧ Cond.methodLink (yy m).cls idx (yy c) ∈ AW ∧ Cond.instanceMethod (yy c) ∈ AW ∧ Cond.selects (yy c).cls (yy c) (yy c) ∈ AW ∧ ∃ T, clT[ci]? = some ((yy c).cls, T, nf ci)
def SLP (m c : MR) (idx n : Nat) : Prop := CaP m c n ∧ Cond.methodLink (yy m).cls idx (yy c) ∈ AW ∧ Cond.static (yy c) ∈ AW
theorem wp_callV {c : MR} {idx q ci : Nat} {A St : List AV} (hd : decode (cd m) pc = .ok (.invokevirtual idx, 3)) (hvl : VLP m c idx A.length ci) (hq : oq w q (0, ci))
    (hst : St = A.reverse ++ vr q :: S) (hW : (S.map catA).sum ≤ 8) (hk : k.1 + (rmm c).cells ≤ (rmm m).cells ∧ k.2 + (rmm c).slots ≤ (rmm m).slots)
    (hM : MetS b c (vr q :: A) w (fun r w' => WpG b bF m (pc + 3) L (r.toList ++ S) (k.1 + (rmm c).cells, k.2 + (rmm c).slots) w' Q)) : WpG b bF m pc L St k w Q := fun p l e s mm args below meth c0 G n0 Z H locs ls X Y => by
  subst hst
  obtain ⟨hc, hl, hin, hse, T, hci⟩ := hvl
  have hoA : ∀ v ∈ A, okv v := fun v hv => Y.2.2.1 v (List.mem_append_left _ (List.mem_reverse.mpr hv))
  have hoS : ∀ v ∈ S, okv v := fun v hv => Y.2.2.1 v (List.mem_append_right _ (List.mem_cons_of_mem _ hv))
  have hq1 : q ≤ 1000 := Nat.le_trans hq.2.1 Y.2.2.2.2.2.2.2.2.2
  have hM2 := hM l G H.size X.2.2.2.2.2.2.2.1 (okv_cons trivial hoA)
  rw [mp_ref hq.1 hq1] at hM2
  refine run_k (va_runV (b := gB G + q) (As := A.map (cv G)) (C := (yy c).cls) (n := A.length) (nL := nLo m) ⟨X.1, X.2.1, X.2.2.1, X.2.2.2.1, X.2.2.2.2.1⟩ hM2 ⟨callB_c hc hl X.2.2.2.2.1, X.2.2.2.2.1 _ hin, X.2.2.2.2.1 _ hse⟩ ⟨blindC, va_recv X.2.2.2.2.2.1.1 Y.2.2.2.1 hci (cE_obj hq), fun U hU hW2 => ⟨rfl, by rw [hU], X.2.2.2.2.2.1.moved hW2 hU Y.2.2.2.2.2.2.1, by rw [hU]; exact Y.2.2.2.1, Y.2.2.2.2.1, by rw [hU]; exact Y.2.2.2.2.2.1, Y.2.2.2.2.2.2.2.2.2⟩⟩ rfl (by rw [List.length_map]) Y.1.1 ?_ ?_ hd hk) X Y hoS (fun r w' h => h)
  · show (A.reverse ++ vr q :: S).map (cv G) = _
    rw [List.map_append, mp_ref hq.1 hq1, List.map_reverse]
  · show 0 + ((S.map (cv G)).map fun v => v.category).sum ≤ 8
    rw [catS_eq, Nat.zero_add]
    exact hW
theorem wp_callS {c : MR} {idx : Nat} {A St : List AV} (hd : decode (cd m) pc = .ok (.invokestatic idx, 3)) (hsl : SLP m c idx A.length)
    (hst : St = A.reverse ++ S) (hW : (S.map catA).sum ≤ 8) (hk : k.1 + (rmm c).cells ≤ (rmm m).cells ∧ k.2 + (rmm c).slots ≤ (rmm m).slots)
    (hM : MetS b c A w (fun r w' => WpG b bF m (pc + 3) L (r.toList ++ S) (k.1 + (rmm c).cells, k.2 + (rmm c).slots) w' Q)) : WpG b bF m pc L St k w Q := fun p l e s mm args below meth c0 G n0 Z H locs ls X Y => by
  subst hst
  obtain ⟨hc, hl, hin⟩ := hsl
  have hoA : ∀ v ∈ A, okv v := fun v hv => Y.2.2.1 v (List.mem_append_left _ (List.mem_reverse.mpr hv))
  have hoS : ∀ v ∈ S, okv v := fun v hv => Y.2.2.1 v (List.mem_append_right _ hv)
  have hM2 := hM l G H.size X.2.2.2.2.2.2.2.1 hoA
  refine run_k (va_runS (As := A.map (cv G)) (n := A.length) (nL := nLo m) ⟨X.1, X.2.1, X.2.2.1, X.2.2.2.1, X.2.2.2.2.1⟩ hM2 ⟨callB_c hc hl X.2.2.2.2.1, X.2.2.2.2.1 _ hin⟩ ⟨blindC, fun U hU hW2 => ⟨rfl, by rw [hU], X.2.2.2.2.2.1.moved hW2 hU Y.2.2.2.2.2.2.1, by rw [hU]; exact Y.2.2.2.1, Y.2.2.2.2.1, by rw [hU]; exact Y.2.2.2.2.2.1, Y.2.2.2.2.2.2.2.2.2⟩⟩ rfl (by rw [List.length_map]) Y.1.1 ?_ ?_ hd hk) X Y hoS (fun r w' h => h)
  · show (A.reverse ++ S).map (cv G) = _
    rw [List.map_append, List.map_reverse]
  · show 0 + ((S.map (cv G)).map fun v => v.category).sum ≤ 8
    rw [catS_eq, Nat.zero_add]
    exact hW
theorem wp_callC {c : MR} {idx q : Nat} {A St : List AV} (hd : decode (cd m) pc = .ok (.invokespecial idx, 3)) (hc : CaP m c A.length) (hrt : rtt c = none) (hl : Cond.methodLink (yy m).cls idx (yy c) ∈ AW) (hin : Cond.instanceMethod (yy c) ∈ AW) (hnm : (yy c).name = "<init>") (hq0 : 0 < q) (hq : q ≤ 1000)
    (hst : St = A.reverse ++ vr q :: S) (hW : (S.map catA).sum ≤ 8) (hk : k.1 + (rmm c).cells ≤ (rmm m).cells ∧ k.2 + (rmm c).slots ≤ (rmm m).slots)
    (hM : MetS b c (vr q :: A) w (fun r w' => WpG b bF m (pc + 3) L (r.toList ++ S) (k.1 + (rmm c).cells, k.2 + (rmm c).slots) w' Q)) : WpG b bF m pc L St k w Q := fun p l e s mm args below meth c0 G n0 Z H locs ls X Y => by
  subst hst
  have hoA : ∀ v ∈ A, okv v := fun v hv => Y.2.2.1 v (List.mem_append_left _ (List.mem_reverse.mpr hv))
  have hoS : ∀ v ∈ S, okv v := fun v hv => Y.2.2.1 v (List.mem_append_right _ (List.mem_cons_of_mem _ hv))
  have hM2 := hM l G H.size X.2.2.2.2.2.2.2.1 (okv_cons trivial hoA)
  rw [mp_ref hq0 hq] at hM2
  have hcb := callB_c (m := m) hc hl X.2.2.2.2.1
  rw [hrt] at hcb
  refine run_k (va_runI (b := gB G + q) (As := A.map (cv G)) (n := A.length) (nL := nLo m) ⟨X.1, X.2.1, X.2.2.1, X.2.2.2.1, X.2.2.2.2.1⟩ hM2 ⟨hcb, hnm, X.2.2.2.2.1 _ hin⟩ ⟨blindC, fun U hU hW2 => ⟨rfl, by rw [hU], X.2.2.2.2.2.1.moved hW2 hU Y.2.2.2.2.2.2.1, by rw [hU]; exact Y.2.2.2.1, Y.2.2.2.2.1, by rw [hU]; exact Y.2.2.2.2.2.1, Y.2.2.2.2.2.2.2.2.2⟩⟩ rfl (by rw [List.length_map]) Y.1.1 ?_ ?_ hd hk) X Y hoS (fun r w' h => h)
  · show (A.reverse ++ vr q :: S).map (cv G) = _
    rw [List.map_append, mp_ref hq0 hq, List.map_reverse]
  · show 0 + ((S.map (cv G)).map fun v => v.category).sum ≤ 8
    rw [catS_eq, Nat.zero_add]
    exact hW
end Calls
