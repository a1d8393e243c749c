/-! contracts of methods that may throw -/
def ThrAt (m : MR) (pc : Nat) (cls : String) : Prop := ∃ (ic is ii i : Nat) (tx : String), decode (cd m) pc = .ok (.new ic, 3) ∧ decode (cd m) (pc + 3) = .ok (.dup, 1) ∧ decode (cd m) (pc + 4) = .ok (.ldc is, 2) ∧ decode (cd m) (pc + 6) = .ok (.invokespecial ii, 3) ∧ decode (cd m) (pc + 9) = .ok (.athrow, 1) ∧ Cond.classLink (yy m).cls ic cls ∈ AW ∧ Cond.methodLink (yy m).cls ii (Bundle.initS cls) ∈ AW ∧ stT[i]? = some ((yy m).cls, is, tx)
/-- the class cls can be thrown -/
def ExK (cls : String) : Prop := ∃ (sup : String) (ix : Nat) (by1 : ByteArray), (Bundle.fit cls = true ∧ Bundle.fit sup = true) ∧ (decode by1 0 = .ok (.aload_n 0, 1) ∧ decode by1 1 = .ok (.aload_n 1, 1) ∧ decode by1 2 = .ok (.invokespecial ix, 3) ∧ decode by1 5 = .ok (.return_, 1)) ∧ ∀ (G : Gh) (args : Array Value) (s : State), (∀ w ∈ AW, w.before args s = true) → SK G s → ExW cls sup ix by1 args s
theorem exk_IA : ExK "java/lang/IllegalArgumentException" := ⟨_, _, _, ⟨by decide, by decide⟩, ⟨by decide +kernel, by decide +kernel, by decide +kernel, by decide +kernel⟩, fun G args s h1 h2 => exw_IA h1 h2⟩
theorem exk_NS : ExK "java/util/NoSuchElementException" := ⟨_, _, _, ⟨by decide, by decide⟩, ⟨by decide +kernel, by decide +kernel, by decide +kernel, by decide +kernel⟩, fun G args s h1 h2 => exw_NS h1 h2⟩
def QcT (G : Gh) (n0 sz : Nat) (cls : String) (Qw : Wo → Prop) : Array Value → State → Outcome → State → Prop := fun _ st o t =>
  (∃ (a : Addr) (ce : Cell) (w' : Wo), Qw w' ∧ o = .threw a ∧ t.heap[a]? = some ce ∧ ce.vm = .none ∧ st.vm.findClass cls = some ce.cls ∧ st.vm.assignable ce.cls ce.cls = true ∧ va_P (gD G) clT (wL G w') t.heap ∧ InS w' ∧ LY w' ∧ n0 ≤ wn w' ∧ (wn w' ≤ n0 ∨ sz ≤ gB G + n0 + 1) ∧ wn w' ≤ 1000) ∧ va_F (fr (gB G) n0 sz) st t
/-- THE CONTRACT of method m where it throws -/
def MetTS (m : MR) (As : List AV) (w : Wo) (cls : String) (Qw : Wo → Prop) : Prop := ∀ (l : Launch) (G : Gh) (sz : Nat), l.stackTraces = false → (∀ v ∈ As, okv v) → MetFree l (yy m) (headSpec (wsm m) (rmm m)) (va_Pc (As.map (cv G)) (PcC true G sz w)) (fun _ _ _ _ _ => True) (fun a st o t => QcT G (wn w) sz cls Qw a st o t ∧ ∃ L, FrameEndT st o t L (rmm m).cells (rmm m).slots ∧ ∀ q ∈ L, fr (gB G) (wn w) sz q.base)
theorem va_at_ns {D : va_G} {cl : List vw_C} {q : Nat × va_E} {H : Heap} {cell : Cell} (h : va_at D cl q H) (hc : H[q.1]? = some cell) : cell.vm.isStatics = false := by
  rcases q with ⟨a, e | o⟩
  · have h : H[a]? = some (vp_cell e.1 e.2) := h
    have hc : H[a]? = some cell := hc
    rw [h] at hc
    cases hc
    rcases e with ⟨cA, n, (f | f | f | f | f)⟩ <;> rfl
  · obtain ⟨r, -, cV, g1, g2, g3, -⟩ := h
    have hc : H[a]? = some cell := hc
    have g1 : H[a]? = some cV := g1
    rw [g1] at hc
    cases hc
    rw [g3]
    rfl
theorem arg_in : ∀ (As : List AV) (i : Nat), ∀ q ∈ argL i As, q.2 ∈ As := by
  intro As
  induction As with
  | nil => intro i q hq; cases hq
  | cons v t ih =>
    intro i q hq
    unfold argL at hq
    rcases List.mem_cons.mp hq with rfl | h2
    · exact List.mem_cons_self
    · exact List.mem_cons_of_mem _ (ih _ q h2)
theorem met_ofT {m : MR} {As : List AV} {w : Wo} {cls : String} {Qw : Wo → Prop} (hy : plainName (yy m).cls = true) (hx : ExK cls) (hsc : scr m = none) (hrm : (rmm m).cells = 1 ∧ (rmm m).slots = 6 ∧ 5 < (rmm m).frames ∧ 85 ≤ (rmm m).locals) (hn : slL As ≤ nLo m)
    (h : WpG true true m 0 (argL 0 As) [] (0, 0) w (fun r w' => ∃ pc, r = some (vr pc) ∧ ThrAt m pc cls ∧ Qw w')) : MetTS m As w cls Qw := fun l G sz hlt ho => by
  refine MetFree.of_bodyS (code := cd m) (maxLocals := nLo m) (ret := rtt m) hy ?_ ?_
  · intro args s mm hh hn2
    obtain ⟨meth, c, h1, h2, h3, h4, h5, h6, -, -⟩ := Cond.code_spec hn2 (atoms_spec (ws := wsm m) hh _ List.mem_cons_self)
    exact ⟨meth, c, h1, h2, h3, h4, h5, h6⟩
  intro p e s mm args below meth c s₁ B hml hv _
  have hh0 : s₁.heap = s.heap := by rw [B.state]; rfl
  obtain ⟨rfl, hsz, hK, hP, hi, hI, h1000⟩ := hv
  subst hsz
  have hts := atoms_spec (ws := wsm m) B.pre
  have hlocks := B.notSynchronized
  have hnoh := B.noHandlers (hts _ List.mem_cons_self)
  have hl := lv_entry (As.map (cv G)) (n := nLo m) (by rw [slL_eq]; exact hn)
  have key : W p l e (rmm m) s mm (As.map (cv G)).toArray below meth c s.heap [] 0 0 (fun t => ∃ o, t.status = .running ∧ Ended t below o ∧ QcT G (wn w) s.heap.size cls Qw (As.map (cv G)).toArray s o t ∧ ∃ L, FrameEndT s o t L (rmm m).cells (rmm m).slots ∧ ∀ q ∈ L, fr (gB G) (wn w) s.heap.size q.base) (entryFrame mm (As.map (cv G)).toArray (nLo m)) := by
    rw [lg_entry_eq]
    generalize (lg_sl (As.map (cv G)) ++ List.replicate (nLo m - (lg_sl (As.map (cv G))).length) Slot.unset).toArray = ls at hl ⊢
    rw [argL_map] at hl
    refine h p l e s mm _ below meth c G (wn w) _ s.heap [] ls ⟨B.exec, B.bytes, hml, findClass_of_methodNamed B.named, fun x hx => hts x (List.mem_cons_of_mem _ hx), hK, (name_of_methodNamed B.named B.method).1, hlt, fun xs hxs => (by rw [hsc] at hxs; cases hxs), ?_⟩ ⟨hl, fun q hq => ho _ (arg_in As 0 q hq), fun v hv => (by cases hv), hP, hi, hI, va_S.rf, Nat.le_refl _, Or.inl (Nat.le_refl _), h1000⟩
    intro H locs ls' pc k r w' hQ hY hk1 hk2 hR
    obtain ⟨pc', rfl, ⟨ic, is, ii, i, tx, d1, d2, d3, d4, d5, w1, w2, hst⟩, hw⟩ := hQ
    obtain ⟨-, rfl, rfl⟩ := hR
    have hAW : ∀ x ∈ AW, x.before (As.map (cv G)).toArray s = true := fun x hx => hts x (List.mem_cons_of_mem _ hx)
    obtain ⟨sup, ix, by1, ⟨f1, f2⟩, ⟨g0, g1, g2, g5⟩, hex⟩ := hx
    obtain ⟨⟨a1, a2, a3, a4⟩, ⟨a5, a6, a7, a8, a9⟩, ⟨c1, c2, c3, c4, c5⟩, ⟨c6, c7⟩, ⟨c8, c9⟩⟩ := hex G _ s hAW hK.2.1
    have hown := findClass_of_methodNamed B.named
    have hS := hY.2.2.2.2.2.2.1
    show W p l e (rmm m) s mm (As.map (cv G)).toArray below meth c H locs 0 0 _ (F0 mm pc' ls' [])
    refine W.newc B.exec B.bytes hown (hAW _ w1) a5 a6 rfl d1 (by rw [hrm.1]; exact Nat.le_refl _) (by rw [hrm.2.1]; exact Nat.le_refl _) fun cC kC q1 q2 q3 q4 => ?_
    show W p l e (rmm m) s mm (As.map (cv G)).toArray below meth c _ locs (0 + 1) (0 + 6) _ (F0 mm (pc' + 3) ls' [.ref H.size])
    refine lv_dup B.exec B.bytes d2 rfl ?_
    refine va_ldcS B.exec B.bytes hown (hK.2.1.2.1 i _ hst) d3 ?_
    intro T hT X
    have hls : ls'.size = c.maxLocals := by rw [hml]; exact hY.1.1
    have hcellT : T.heap[H.size]? = some (freshCell cC kC) := by rw [hT, Array.getElem?_push_size]
    have hlo : ∀ x ∈ locs, ∀ cell, s.heap[x.base]? = some cell → cell.vm.isStatics = false := by
      intro x hx cell hc
      rcases hS.2.2 x hx with hb | hb
      · have hg := wL_get (G := G) (w := w) (q := x.base - gB G) (by omega) (by omega)
        have he := hP _ _ hg
        rw [show gB G + (x.base - gB G) = x.base by omega] at he
        exact va_at_ns he hc
      · have := (Array.getElem?_eq_some_iff.mp hc).1
        omega
    have hd6 : decode c.code (pc' + 6) = .ok (.invokespecial ii, 3) := by rw [B.bytes]; exact d4
    have hd9 : decode c.code (pc' + 6 + 3) = .ok (.athrow, 1) := by rw [B.bytes]; exact d5
    have hout : ∀ x ∈ c.exceptionTable.toList, covers x (pc' + 6 + 3) = false := by
      intro x hx
      rw [Array.isEmpty_iff] at hnoh
      rw [hnoh] at hx
      cases hx
    have hfr : (["java/lang/Exception"] : List String).length + 4 < (rmm m).frames := hrm.2.2.1
    have hlo2 : 2 * (F0 mm (pc' + 6) ls' [.ref (gA G (1001 + i)), .ref H.size, .ref H.size]).monitorRoom + ((Value.ref H.size :: ([] : List Value)).map fun v => v.category).sum + (13 * ((["java/lang/Exception"] : List String).length + 2) + 42) ≤ (rmm m).locals := Nat.le_trans (Nat.le_of_ble_eq_true rfl) hrm.2.2.2
    have htr : e.platform.stackTraces = false := by rw [X.admits.platform]; exact hlt
    obtain ⟨U, st, hrun, hend, hWU, hsame, ⟨ce, hce1, hce2, hce3, hce4⟩, hsz, hkp⟩ := thr_out (g := F0 mm (pc' + 6) ls' [.ref (gA G (1001 + i)), .ref H.size, .ref H.size]) (rest := []) (msg := .ref (gA G (1001 + i))) (a := H.size) X B.exec htr hown f1 f2 (by decide) g0 g1 g2 g5 a1 a2 a3 a4 (hAW _ w2) a5 a7 a8 a9 c1 c2 c3 c4 c5 c6 c7 c8 c9 hlo q1 q2 hcellT hS.1 rfl rfl hls rfl rfl rfl hd6 hd9 hout hfr hlo2 hlocks
    have hkq : ∀ q, q < H.size → U.heap[q]? = H[q]? := by
      intro q hq
      rw [hkp q (Nat.ne_of_lt hq), hT, Array.getElem?_push, if_neg (Nat.ne_of_lt hq)]
    have hPU : va_P (gD G) clT (wL G w') U.heap := hY.2.2.2.1.kept (fun i x hx => hkq x.1 ((hY.2.2.2.1 i x hx).lt))
    refine ⟨U, st, .threw H.size, hrun, hend, ⟨⟨H.size, ce, w', hw, rfl, hce1, hce2, hce3, hce4, hPU, hY.2.2.2.2.1, hY.2.2.2.2.2.1, hY.2.2.2.2.2.2.2⟩, ?_, ?_⟩, locs, ⟨⟨_, rfl⟩, hWU, ?_⟩, hS.2.2⟩
    · rw [hsz, hT, Array.size_push]
      have := hS.1
      omega
    · intro q hq1 hq2
      rw [hkq q (Nat.lt_of_lt_of_le hq1 hS.1)]
      exact hS.2.1 q hq1 hq2
    · rw [hrm.1, hrm.2.1]
      exact hsame
  obtain ⟨t, a1, o, b1, b2, b3, b4⟩ := key s₁ hh0 (Stand.of_body B)
  exact ⟨t, o, a1, b1, b2, b3, b4⟩
