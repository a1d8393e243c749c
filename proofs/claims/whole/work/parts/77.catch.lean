/-! catching: a call of a method that throws, inside a method with a handler -/
section CallT
variable {p : Program} {l : Launch} {e : Env} {R : Room} {s : State} {m : MethodId} {args : Array Value} {below : List Frame} {meth : Method} {c : Code} {T : State} {locs : List Loc} {cells slots : Nat}
theorem callVT (X : Stand p l e R s m args below meth c T locs cells slots) (hexec : p.tables.exec = Jvm.exec) {own C : String} {index : Nat} {y : MethodName} {bytes : ByteArray} {maxL : Nat} {ret : Option FieldType}
    (hown : s.vm.findClass own = some m.cls) (hlink : (Cond.methodLink own index y).before args s = true) (hinst : (Cond.instanceMethod y).before args s = true) (hsel : (Cond.selects C y y).before args s = true)
    (hcode : (Cond.code y bytes maxL ret).before args s = true) (hy : y.cls ≠ "java/lang/invoke/MethodHandle" ∧ y.cls ≠ "java/lang/invoke/VarHandle")
    {Wd : Nat} {Pre : Pt → Array Value → Prop} {Post : Pt → Array Value → Addr → Pt → Prop} (hK : BackT l R p e below s args y 3 Wd Pre Post)
    {b : Addr} {cellB : Cell} (hcell : T.heap[b]? = some cellB) (hobj : cellB.vm.isStatics = false) (hcls : s.vm.findClass C = some cellB.cls)
    {g : JFrame} (hg : g.method = m) (hsize : g.locals.size = c.maxLocals) {argsL rest : List Value} (hlen : ∀ sig, parseMethodDescriptor y.desc = some sig → argsL.length = sig.parameters.length)
    (hstack : g.stack = argsL.reverse ++ .ref b :: rest) (hW : 2 * g.monitorRoom + (rest.map fun v => v.category).sum ≤ Wd) (hdg : decode c.code g.pc = .ok (.invokevirtual index, 3))
    (hpre : ∀ vm₁, s.WarmedH vm₁ → Pre ⟨T.setVm vm₁, locs, cells, slots⟩ (Value.ref b :: argsL).toArray) :
    ∃ (v : Addr) (vm₁ : Vm) (B : Pt), s.WarmedH vm₁ ∧ Stand p l e R s m args below meth c B.U B.locs B.cells B.slots ∧ Post ⟨T.setVm vm₁, locs, cells, slots⟩ (Value.ref b :: argsL).toArray v B ∧
      Steps p.tables e below (T.setTop g) ((B.U.setTop { g with stack := rest }).pushFrame (.throwing v)) := by
  obtain ⟨mk, methM, hnamed, hmethM, hstM, habM⟩ := Cond.instanceMethod_spec hinst
  obtain ⟨methM', cM, hmethM', -, -, -, -, -, -, hsigM⟩ := Cond.code_spec hnamed hcode
  cases hmethM.symm.trans hmethM'
  obtain ⟨c2, r2, m2, q1, q2, q3, q4, kP, hkP, hkPi⟩ := Cond.selects_spec hsel
  cases hcls.symm.trans q1
  cases (State.methodFound?_of_named hnamed hy).symm.trans q2
  cases hnamed.symm.trans q3
  have hselP : selectMethod e.platform s.vm cellB.cls mk = .method mk := by rw [Launch.admits_selectMethod X.admits]; exact q4
  obtain ⟨vm₁, X₁, hstep₁⟩ := X.invokevirtual hexec hown hlink hnamed hmethM hstM hkP hkPi hy (a := b) (cell := cellB) hcell
    (fun z h => by rw [h] at hobj; cases hobj) hselP hmethM habM hkP hkPi (g := g) hg (argsL := argsL) (rest := rest) (hlen _ hsigM) hstack hdg
  obtain ⟨v, B, X', hpost, hsteps⟩ := hK m meth c ⟨T.setVm vm₁, locs, cells, slots⟩ { g with stack := rest } (.invokevirtual index) mk (Value.ref b :: argsL).toArray X₁ hg hsize hdg hW (X₁.named hnamed) (hpre vm₁ X₁.warmed)
  exact ⟨v, vm₁, B, X₁.warmed, X', hpost, hstep₁ _ fun acts => by rw [doInvoke_state]; exact hsteps⟩
def PostT (QT : Array Value → State → Outcome → State → Prop) (mc ms : Nat) (free : Addr → Prop) : Pt → Array Value → Addr → Pt → Prop := fun A a v B =>
  ∃ (g : JFrame) (mk : MethodId) (t : State) (L : List Loc), B.U.heap = t.heap ∧ B.U.vm = t.vm ∧ QT a (A.U.calling g mk a) (.threw v) t ∧ B.locs = A.locs ++ L ∧ (∀ q ∈ L, free q.base) ∧ B.cells = A.cells + mc ∧ B.slots = A.slots + ms
theorem backT_of {sargs : Array Value} {y : MethodName} {len Wd : Nat} {ws : List Cond} {rm : Room} {Pc : Array Value → State → Prop} {QT : Array Value → State → Outcome → State → Prop} {mc ms : Nat} {free : Addr → Prop} {bytes : ByteArray} {maxL : Nat} {ret : Option FieldType}
    (hM : MetFree l y (headSpec ws rm) Pc (fun _ _ _ _ _ => True) (fun a st o t => QT a st o t ∧ ∃ L, FrameEndT st o t L mc ms ∧ ∀ q ∈ L, free q.base)) (hblind : FrameBlind Pc) (hrc : rm.cells = mc) (hrs : rm.slots = ms)
    (hframes : rm.frames + 1 ≤ R.frames) (hlocals : Wd + (maxL + 11) + rm.locals ≤ R.locals)
    (hws : ∀ w ∈ ws, ∀ a' U, s.WarmedH U.vm → w.before a' U = true) (hcode : Cond.code y bytes maxL ret ∈ ws) (hinit : ∀ a' U, s.WarmedH U.vm → (Cond.initialized y.cls).before a' U = true) :
    BackT l R p e below s sargs y len Wd (PreOf R mc ms Pc) (PostT QT mc ms free) := by
  refine BackT.of_free (S := headSpec ws rm) (P := Pc) (K := fun _ _ _ _ _ => True) (Q := fun a st o t => QT a st o t ∧ ∃ L, FrameEndT st o t L mc ms ∧ ∀ q ∈ L, free q.base) (bytes := bytes) (maxL := maxL) (ret := ret)
    (E := fun a st o t L k n => k = mc ∧ n = ms ∧ ∀ q ∈ L, free q.base) hM hframes hlocals ?_ ?_ (fun _ _ _ _ _ _ _ _ _ => trivial) ?_ ?_
  · intro m meth c A a X hp
    exact ⟨atoms_intro fun w hw => hws w hw _ _ X.warmed, hws _ hcode _ _ X.warmed, hinit _ _ X.warmed, by rw [show (headSpec ws rm).room.cells = mc from hrc]; exact hp.1, by rw [show (headSpec ws rm).room.slots = ms from hrs]; exact hp.2.1⟩
  · intro m meth c A a g mk X hp
    exact hblind _ _ _ _ hp.2.2
  · intro a st o t ⟨hq, L, hF, hL⟩
    exact ⟨L, mc, ms, hF, rfl, rfl, hL⟩
  · intro m meth c A a g mk v t L k n X hp hq hF ⟨e1, e2, hL⟩
    subst e1; subst e2
    exact ⟨g, mk, t, L, rfl, rfl, hq.1, rfl, hL, rfl, rfl⟩
/-- 'invokestatic' of a method with an exception table -/
theorem callSW (X : Stand p l e R s m args below meth c T locs cells slots) (hexec : p.tables.exec = Jvm.exec) {own : String} {index : Nat} {y : MethodName} {bytes : ByteArray} {maxL : Nat} {ret : Option FieldType} {hh : List (Nat × Nat × Nat × Nat)}
    (hown : s.vm.findClass own = some m.cls) (hlink : (Cond.methodLink own index y).before args s = true) (hstat : (Cond.static y).before args s = true) (hinit : (Cond.initialized y.cls).before args s = true)
    (hcode : (Cond.codeWith y bytes maxL ret hh).before args s = true) (hy : y.cls ≠ "java/lang/invoke/MethodHandle" ∧ y.cls ≠ "java/lang/invoke/VarHandle")
    {Wd : Nat} {Pre : Pt → Array Value → Prop} {Post : Pt → Array Value → Option Value → Pt → Prop} (hK : Back l R p e below s args y 3 Wd Pre Post)
    {g : JFrame} (hg : g.method = m) (hsize : g.locals.size = c.maxLocals) {argsL rest : List Value} (hlen : ∀ sig, parseMethodDescriptor y.desc = some sig → argsL.length = sig.parameters.length)
    (hstack : g.stack = argsL.reverse ++ rest) (hW : 2 * g.monitorRoom + (rest.map fun v => v.category).sum ≤ Wd) (hdg : decode c.code g.pc = .ok (.invokestatic index, 3))
    (hpre : ∀ vm₁, s.WarmedH vm₁ → Pre ⟨T.setVm vm₁, locs, cells, slots⟩ argsL.toArray) :
    ∃ (v : Option Value) (vm₁ : Vm) (B : Pt), s.WarmedH vm₁ ∧ Stand p l e R s m args below meth c B.U B.locs B.cells B.slots ∧ Post ⟨T.setVm vm₁, locs, cells, slots⟩ argsL.toArray v B ∧
      ∀ target, Steps p.tables e below (B.U.setTop { g with pc := g.pc + 3, stack := v.toList ++ rest }) target → Steps p.tables e below (T.setTop g) target := by
  obtain ⟨mk, methM, cM, hnamed, hmethM, -, -, -, -, -, -, hsigM⟩ := Cond.codeWith_spec hcode
  have hstatic : methM.isStatic = true := Cond.static_spec hnamed hmethM hstat
  obtain ⟨kP, hkP, -⟩ := className_of_methodNamed hnamed
  have hinitP : kP.init = .initialized := Cond.initialized_spec (findClass_of_methodNamed hnamed) hkP hinit
  obtain ⟨vm₁, X₁, hstep₁⟩ := X.invokestatic hexec hown hlink hnamed hmethM hstatic hkP hinitP hy (g := g) hg (argsL := argsL) (rest := rest) (hlen _ hsigM) hstack hdg
  obtain ⟨v, B, X', hpost, hsteps⟩ := hK m meth c ⟨T.setVm vm₁, locs, cells, slots⟩ { g with stack := rest } (.invokestatic index) mk argsL.toArray X₁ hg hsize hdg hW (X₁.named hnamed) (hpre vm₁ X₁.warmed)
  exact ⟨v, vm₁, B, X₁.warmed, X', hpost, fun target h => hstep₁ _ fun acts => by rw [doInvoke_state]; exact hsteps.trans h⟩
end CallT
abbrev HH : Type := List (Nat × Nat × Nat × Nat)
def wsH (m : MR) (hh : HH) : List Cond := Cond.codeWith (yy m) (cd m) (nLo m) (rtt m) hh :: AW
/-- THE CONTRACT of a method with handlers -/
def MetH (m : MR) (hh : HH) (As : List AV) (w : Wo) (Q : Option AV → Wo → Prop) : Prop := ∀ (l : Launch) (G : Gh) (sz : Nat), l.stackTraces = false → (∀ v ∈ As, okv v) → Met l (yy m) (wsH m hh) (rmm m) (va_Pc (As.map (cv G)) (PcC true G sz w)) (Qcc true G (wn w) sz Q) (rmm m).cells (rmm m).slots (fr (gB G) (wn w) sz)
theorem MetH.mono {m : MR} {hh : HH} {As : List AV} {w : Wo} {Q Q' : Option AV → Wo → Prop} (h : MetH m hh As w Q) (hq : ∀ r w', Q r w' → Q' r w') : MetH m hh As w Q' := fun l G sz hl ho =>
  Met.imp (h l G sz hl ho) (fun a st o t hh => by
    obtain ⟨⟨r, w', h1, h2⟩, h3⟩ := hh
    exact ⟨⟨r, w', hq r w' h1, h2⟩, h3⟩)
def xtb (c : Code) : HH := c.exceptionTable.toList.map (fun h => (h.startPc, h.endPc, h.handlerPc, h.catchType))
theorem met_ofH {m : MR} {hh : HH} {As : List AV} {w : Wo} {Q : Option AV → Wo → Prop} (hy : plainName (yy m).cls = true) (hth : thr m = false) (hn : slL As ≤ nLo m)
    (h : ∀ (p : Program) (l : Launch) (e : Env) (s : State) (mm : MethodId) (args : Array Value) (below : List Frame) (meth : Method) (c : Code) (G : Gh) (n0 : Nat) (Z : State → Prop) (ls : Array Slot), Wx m Q p l e s mm args below meth c true G n0 Z → xtb c = hh → Wy true G n0 s (nLo m) (argL 0 As) [] w s.heap [] ls → W p l e (rmm m) s mm args below meth c s.heap [] 0 0 Z (F0 mm 0 ls [])) : MetH m hh As w Q := fun l G sz hlt ho => by
  refine va_MetW (hh := hh) (cc := cd m) (maxL := nLo m) (ret := rtt m) hy rfl ?_
  intro p e s mm args below meth c s₁ B hml hv
  obtain ⟨rfl, hsz, hK, hP, hi, hI, h1000⟩ := hv
  subst hsz
  have hts := atoms_spec (ws := wsH m hh) B.pre
  have hlocks := B.notSynchronized
  have hxt : xtb c = hh := by
    obtain ⟨m9, meth9, c9, g1, g2, g3, -, -, g6, -⟩ := Cond.codeWith_spec (hts _ List.mem_cons_self)
    cases Option.some.inj (B.named.symm.trans g1)
    cases Option.some.inj (B.method.symm.trans g2)
    cases Option.some.inj ((Stand.of_body B).code.symm.trans g3)
    exact g6
  have hl := lv_entry (As.map (cv G)) (n := nLo m) (by rw [slL_eq]; exact hn)
  rw [lg_entry_eq]
  generalize (lg_sl (As.map (cv G)) ++ List.replicate (nLo m - (lg_sl (As.map (cv G))).length) Slot.unset).toArray = ls at hl ⊢
  rw [argL_map] at hl
  refine h p l e s mm _ below meth c G (wn w) _ ls ⟨B.exec, B.bytes, hml, findClass_of_methodNamed B.named, fun x hx => hts x (List.mem_cons_of_mem _ hx), hK, (name_of_methodNamed B.named B.method).1, hlt, fun xs hxs => absurd hxs (scr_none hth xs), ?_⟩ hxt ⟨hl, fun q hq => ho _ (arg_in As 0 q hq), fun v hv => (by cases hv), hP, hi, hI, va_S.rf, Nat.le_refl _, Or.inl (Nat.le_refl _), h1000⟩
  intro H locs ls' pc k r w' hQ hY hk1 hk2 hR
  refine W.widen (k := (rmm m).cells) (n := (rmm m).slots) hk1 hk2 ?_
  have hS := hY.2.2.2.2.2.2.1
  have hrv : ∀ v ∈ r.toList, okv v := by
    rcases r with _ | x | x | x
    · exact fun v hv => (by cases hv)
    · exact hY.2.2.1
    · exact hY.2.2.1
    · exact absurd (hth.symm.trans hR.1) (by decide)
  have fin : ∀ (v : Option Value), v = r.map (cv G) → ∀ t : State, t.heap = H → Qcc true G (wn w) s.heap.size Q (As.map (cv G)).toArray s (.returned v) t := fun v hv t ht => ⟨⟨r, w', hQ, by rw [hv], hrv, by rw [ht]; exact hY.2.2.2.1, hY.2.2.2.2.1, by rw [ht]; exact hY.2.2.2.2.2.1, hY.2.2.2.2.2.2.2⟩, hS.F ht⟩
  rcases r with _ | x | x | x
  · exact W.vret B.exec B.bytes (B.returns.trans hR.2) (fun t ht _ => fin none rfl t ht) hS.2.2 hR.1
  · obtain ⟨hd, ty, hr, hn⟩ := hR
    exact W.zret B.exec B.bytes (B.returns.trans hr) hn (fun t ht _ => fin _ rfl t ht) hS.2.2 hd
  · exact W.lret B.exec B.bytes (B.returns.trans hR.2) (fun t ht _ => fin _ rfl t ht) hS.2.2 hR.1
  · exact absurd (hth.symm.trans hR.1) (by decide)
/-- a method that may throw, where it returns -/
theorem met_ofR {m : MR} {As : List AV} {w : Wo} {Q : Option AV → Wo → Prop} (hy : plainName (yy m).cls = true) (hsc : scr m = none) (hth : ∀ q w', ¬ Q (some (vr q)) w') (hn : slL As ≤ nLo m) (h : WpG true true m 0 (argL 0 As) [] (0, 0) w Q) : MetS true m As w Q := fun l G sz hlt ho => by
  refine Met.ofW (cc := cd m) (maxL := nLo m) (ret := rtt m) hy rfl ?_
  intro p e s mm args below meth c s₁ B hml hv
  obtain ⟨rfl, hsz, hK, hP, hi, hI, h1000⟩ := hv
  subst hsz
  have hts := atoms_spec (ws := wsm m) B.pre
  have hlocks := B.notSynchronized
  have hl := lv_entry (As.map (cv G)) (n := nLo m) (by rw [slL_eq]; exact hn)
  rw [lg_entry_eq]
  generalize (lg_sl (As.map (cv G)) ++ List.replicate (nLo m - (lg_sl (As.map (cv G))).length) Slot.unset).toArray = ls at hl ⊢
  rw [argL_map] at hl
  refine h p l e s mm _ below meth c G (wn w) _ s.heap [] ls ⟨B.exec, B.bytes, hml, findClass_of_methodNamed B.named, fun x hx => hts x (List.mem_cons_of_mem _ hx), hK, (name_of_methodNamed B.named B.method).1, hlt, fun xs hxs => (by rw [hsc] at hxs; cases hxs), ?_⟩ ⟨hl, fun q hq => ho _ (arg_in As 0 q hq), fun v hv => (by cases hv), hP, hi, hI, va_S.rf, Nat.le_refl _, Or.inl (Nat.le_refl _), h1000⟩
  intro H locs ls' pc k r w' hQ hY hk1 hk2 hR
  refine W.widen (k := (rmm m).cells) (n := (rmm m).slots) hk1 hk2 ?_
  have hS := hY.2.2.2.2.2.2.1
  have hrv : ∀ v ∈ r.toList, okv v := by
    rcases r with _ | x | x | x
    · exact fun v hv => (by cases hv)
    · exact hY.2.2.1
    · exact hY.2.2.1
    · exact absurd hQ (hth _ _)
  have fin : ∀ (v : Option Value), v = r.map (cv G) → ∀ t : State, t.heap = H → Qcc true G (wn w) s.heap.size Q (As.map (cv G)).toArray s (.returned v) t := fun v hv t ht => ⟨⟨r, w', hQ, by rw [hv], hrv, by rw [ht]; exact hY.2.2.2.1, hY.2.2.2.2.1, by rw [ht]; exact hY.2.2.2.2.2.1, hY.2.2.2.2.2.2.2⟩, hS.F ht⟩
  rcases r with _ | x | x | x
  · exact W.vret B.exec B.bytes (B.returns.trans hR.2) (fun t ht _ => fin none rfl t ht) hS.2.2 hR.1
  · obtain ⟨hd, ty, hr, hn⟩ := hR
    exact W.zret B.exec B.bytes (B.returns.trans hr) hn (fun t ht _ => fin _ rfl t ht) hS.2.2 hd
  · exact W.lret B.exec B.bytes (B.returns.trans hR.2) (fun t ht _ => fin _ rfl t ht) hS.2.2 hR.1
  · exact absurd hQ (hth _ _)
