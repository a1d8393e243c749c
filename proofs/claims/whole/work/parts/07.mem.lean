section Rows
variable {b bF : Bool} {m : MR} {pc : Nat} {L L' : List (Nat × AV)} {S : List AV} {k : Nat × Nat} {w : Wo} {Q : Option AV → Wo → Prop}
/-- class ci as the tables have it -/
def ClP (ci : Nat) : Prop := ∃ (C : String) (T : u_T), clT[ci]? = some (C, T, nf ci) ∧ (∀ w ∈ u_ws C T (nf ci), w ∈ AW) ∧ (∀ k, k < nf ci → parseFieldDescriptor (T k).2.2.1 = some (tyF ci k)) ∧ ∀ a, a < nf ci → ∀ b, b < nf ci → a ≠ b → (T a).2.1 ≠ (T b).2.1
/-- the pool entry idx of class own is field j of class ci (final or not) -/
def FLP (own : String) (idx ci j : Nat) (fin : Bool) : Prop := ∃ (C : String) (T : u_T), clT[ci]? = some (C, T, nf ci) ∧ j < nf ci ∧ Cond.fieldLink own idx (T j).1 (T j).2.1 (T j).2.2.1 ∈ AW ∧ (T j).2.2.2 = fin ∧ (T j).1 = C
theorem cE_obj {G : Gh} {w : Wo} {q ci : Nat} (h : oq w q (0, ci)) : (wL G w)[q - 1]? = some (gB G + q, .inr (ci, fsL G w q (fty ci) (nf ci))) := by
  rw [wL_get h.1 h.2.1]
  unfold cE
  rw [h.2.2]
  rfl
theorem cE_int {G : Gh} {w : Wo} {a t : Nat} (h0 : 0 < a) (h1 : a ≤ wn w) (ht : (wsh w a).1 = t) (h2 : t = 1 ∨ t = 3 ∨ t = 4) : (wL G w)[a - 1]? = some (gB G + a, .inl (gC G t, (wsh w a).2, .inl (fun j => Int32.ofInt (gI w a j)))) := by
  rw [wL_get h0 h1]
  unfold cE
  rw [ht]
  rcases h2 with rfl | rfl | rfl <;> rfl
theorem cE_long {G : Gh} {w : Wo} {a : Nat} (h0 : 0 < a) (h1 : a ≤ wn w) (ht : (wsh w a).1 = 2) : (wL G w)[a - 1]? = some (gB G + a, .inl (gC G 2, (wsh w a).2, .inr (.inl (fun j => Int64.ofInt (gJ w a j))))) := by
  rw [wL_get h0 h1]
  unfold cE
  rw [ht]
  rfl
theorem cE_refs {G : Gh} {w : Wo} {a : Nat} (h0 : 0 < a) (h1 : a ≤ wn w) (ht : (wsh w a).1 = 5) : (wL G w)[a - 1]? = some (gB G + a, .inl (gC G 5, (wsh w a).2, .inr (.inr (.inr (.inr (fun j => cr G (gP w a j))))))) := by
  rw [wL_get h0 h1]
  unfold cE
  rw [ht]
  rfl
theorem mp_ref {G : Gh} {q : Nat} {S : List AV} (h : 0 < q) (h2 : q ≤ 1000) : (vr q :: S).map (cv G) = .ref (gB G + q) :: S.map (cv G) := by
  rw [List.map_cons, cv_ref h h2]
theorem wp_getG {idx ci j q : Nat} {fin : Bool} {v : AV} (hd : decode (cd m) pc = .ok (.getfield idx, 3)) (hf : FLP (yy m).cls idx ci j fin) (hc : ClP ci) (hq : oq w q (0, ci)) (hv : ∀ G : Gh, fv G w q j (fty ci j) = cv G v) (ho : InS w → okv v) (h : WpG b bF m (pc + 3) L (v :: S) k w Q) : WpG b bF m pc L (vr q :: S) k w Q := fun p l e s mm args below meth c G n0 Z H locs ls X Y => by
  obtain ⟨C, T, h1, h2, h3, -, -⟩ := hf
  obtain ⟨C', T', g1, g2, -⟩ := hc
  cases Option.some.inj (h1.symm.trans g1)
  rw [mp_ref hq.1 (Nat.le_trans hq.2.1 Y.2.2.2.2.2.2.2.2.2)]
  refine va_get (D := gD G) (cl := clT) (tys := tysG G) (ref := (T j).1) (C := C) (T := T) (N := nf ci) (ci := ci) X.1 X.2.1 X.2.2.2.2.1 g2 X.2.2.2.1 X.2.2.2.2.2.1.1 Y.2.2.2.1 (q - 1) (cE_obj hq) h1 j h2 (X.2.2.2.2.1 _ h3) (fun _ h9 => h9) (v := cv G v) ?_ hd (h p l e s mm args below meth c G n0 Z H locs ls X (Y.stk (okv_cons (ho Y.2.2.2.2.1) (okv_tl Y.2.2.1))))
  rw [fsL_get h2, hv G]
theorem wp_getI {idx ci j q : Nat} {fin : Bool} (hd : decode (cd m) pc = .ok (.getfield idx, 3)) (hf : FLP (yy m).cls idx ci j fin) (hc : ClP ci) (ht : fty ci j = 1) (hq : oq w q (0, ci)) (h : WpG b bF m (pc + 3) L (vi (gI w q j) :: S) k w Q) : WpG b bF m pc L (vr q :: S) k w Q :=
  wp_getG (v := vi (gI w q j)) hd hf hc hq (fun G => by rw [ht]; rfl) (fun hi => hi.1 q j) h
theorem wp_getJ {idx ci j q : Nat} {fin : Bool} (hd : decode (cd m) pc = .ok (.getfield idx, 3)) (hf : FLP (yy m).cls idx ci j fin) (hc : ClP ci) (ht : fty ci j = 2) (hq : oq w q (0, ci)) (h : WpG b bF m (pc + 3) L (vl (gJ w q j) :: S) k w Q) : WpG b bF m pc L (vr q :: S) k w Q :=
  wp_getG (v := vl (gJ w q j)) hd hf hc hq (fun G => by rw [ht]; rfl) (fun hi => hi.2 q j) h
theorem wp_getP {idx ci j q : Nat} {fin : Bool} (hd : decode (cd m) pc = .ok (.getfield idx, 3)) (hf : FLP (yy m).cls idx ci j fin) (hc : ClP ci) (ht : fty ci j = 5) (hq : oq w q (0, ci)) {v : Nat} (hv : gP w q j = v) (h : WpG b bF m (pc + 3) L (vr v :: S) k w Q) : WpG b bF m pc L (vr q :: S) k w Q :=
  wp_getG (v := vr v) hd hf hc hq (fun G => by rw [ht, ← hv]; rfl) (fun _ => trivial) h
/-- the world behind a write into an object -/
theorem Wy.put {G : Gh} {n0 : Nat} {s : State} {n : Nat} {H H1 : Heap} {locs locs1 : List Loc} {ls : Array Slot} {w' : Wo} {S' : List AV} (Y : Wy b G n0 s n L S w H locs ls) (hP : va_P (gD G) clT (wL G w') H1) (hS : va_S (fr (gB G) n0 s.heap.size) s.heap H1 locs1) (hi : InS w') (hv : Inv b G w' H1) (hn : wn w' = wn w) (hs : ∀ v ∈ S', okv v) : Wy b G n0 s n L S' w' H1 locs1 ls := by
  refine ⟨Y.1, Y.2.1, hs, hP, hi, hv, hS, ?_, ?_, ?_⟩
  · rw [hn]; exact Y.2.2.2.2.2.2.2.1
  · rw [hn]; exact Y.2.2.2.2.2.2.2.2.1
  · rw [hn]; exact Y.2.2.2.2.2.2.2.2.2
/-- a field is written: what is known of the heap behind it, its size too -/
theorem ob_put {p : Program} {l : Launch} {e : Env} {R : Room} {s : State} {mm : MethodId} {args : Array Value} {below : List Frame} {meth : Method} {c : Code} {H H0 : Heap} {locs : List Loc} {cells slots : Nat} {Z : State → Prop} {cc : ByteArray} {ls : Array Slot} {rest : List Value} {D : va_G} {cl : List vw_C} {A : Nat → Prop} {a : Nat} {tys : List (ClassId × FieldType)} {ws : va_W}
    (hexec : p.tables.exec = Jvm.exec) (hb : c.code = cc) {own C : String} {T : u_T} {N ci index : Nat} {Ts : List Cond} (hts : ∀ w ∈ Ts, w.before args s = true) (hin : ∀ w ∈ u_ws C T N, w ∈ Ts) (ty0 : Nat → FieldType) (hty : ∀ k, k < N → parseFieldDescriptor (T k).2.2.1 = some (ty0 k)) (hnm : ∀ a, a < N → ∀ b, b < N → a ≠ b → (T a).2.1 ≠ (T b).2.1)
    (hown : s.vm.findClass own = some mm.cls) (hK : va_K D cl tys s) (hP : va_P D cl ws H) (hD : va_D A ws) (hS0 : va_S A H0 H locs) (q0 : Nat) {fs : List Value} (he : ws[q0]? = some (a, .inr (ci, fs))) (hc : cl[ci]? = some (C, T, N)) (k : Nat) (hk : k < N) (hlink : (Cond.fieldLink own index (T k).1 (T k).2.1 (T k).2.2.1).before args s = true)
    (hfin : (T k).2.2.2 = false ∨ ((T k).2.2.2 = true ∧ meth.name = "<init>" ∧ (T k).1 = own)) {v : Value} (hn : narrow (ty0 k) v = v) (hfit : fits (ty0 k) v = true) (hl : k < fs.length) (hdg : decode cc pc = .ok (.putfield index, 3))
    (kk : ∀ (H1 : Heap) (locs1 : List Loc), va_P D cl (ws.set q0 (a, .inr (ci, fs.set k v))) H1 → va_S A H0 H1 locs1 → H1.size = H.size → W p l e R s mm args below meth c H1 locs1 cells slots Z (F0 mm (pc + 3) ls rest)) : W p l e R s mm args below meth c H locs cells slots Z (F0 mm pc ls (v :: .ref a :: rest)) := by
  have hap := va_apart (own := own) hts hin ty0 hty hnm hK hc
  obtain ⟨r, h1, cell, q1, q2, q3, q4⟩ := hP q0 _ he
  have hr : r = (C, T, N) := Option.some.inj (h1.symm.trans hc)
  subst hr
  obtain ⟨hS, hfc, kC, hkC, hkind⟩ := hK.1 ci _ hc
  obtain ⟨cf, kf, fi, f, hi, hsl⟩ := hS k hk
  have hlay := hts _ (hin _ (u_in_lay hk))
  have hst := (u_facts hfc hkC (u_lays hts hin hk) hi).1
  have fin : ∀ (H' : Heap), H'[a]? = some (cell.setSlot f.slot v) → H'.size = H.size → (∀ q, q ≠ a → H'[q]? = H[q]?) → W p l e R s mm args below meth c H' (locs ++ [⟨a, f.slot⟩]) cells slots Z (F0 mm (pc + 3) ls rest) := by
    intro H' e1 e2 e3
    rw [hsl] at e1 ⊢
    exact kk H' _ (hP.set hD he ⟨_, hc, t_OB.to (V := updV (vp_V fs) k v) ⟨_, e1, q2, q3, t_set q4 hap hk v⟩ (fun j _ => vp_updV_set hl v j)⟩ e3) (hS0.put e2 e3 (hD.2 q0 _ he)) e2
  unfold u_lay at hlay
  rcases hfin with hf | ⟨hf, hin2, hdecl⟩
  · rw [if_neg (by rw [hf]; decide)] at hlay
    have h6 := u_store hfc hkC hkind hlay hi (hty k hk) hn hfit
    exact W.putK hexec hb (f := f) ⟨hown, hlink, ⟨_, _, _, hi⟩, hst⟩ (by rw [q2]; exact h6) q1 q3 (by rw [hsl]; exact k2_hasslot (q4 k hk)) rfl rfl hdg fin
  · rw [if_pos hf] at hlay
    have hcf : mm.cls = cf := by
      obtain ⟨_, _, c', _, _, _, -, -, hf', -, -, -, hown2, -⟩ := Cond.laysFinal_spec hlay
      have e1 : c' = cf := by have := hi.symm.trans hf'; simp at this; exact this.1.symm
      rw [hdecl] at hown2
      rw [← e1]; exact Option.some.inj (hown.symm.trans hown2)
    have h6 := u_fits hfc hkC hkind (Or.inr hlay) hi (hty k hk) hn hfit
    exact W.putFinK hexec hb hown hlink hi hst hcf hin2 (by rw [q2]; exact h6) q1 q3 (by rw [hsl]; exact k2_hasslot (q4 k hk)) rfl rfl hdg fin
theorem wp_putG {idx ci j q : Nat} {fin : Bool} {v : AV} {w' : Wo} (hd : decode (cd m) pc = .ok (.putfield idx, 3)) (hf : FLP (yy m).cls idx ci j fin) (hfi : fin = false ∨ (yy m).name = "<init>") (hdc : fin = false ∨ ∃ T, clT[ci]? = some ((yy m).cls, T, nf ci)) (hc : ClP ci) (hq : oq w q (0, ci))
    (hn : ∀ G : Gh, narrow (tyF ci j) (cv G v) = cv G v) (hft : ∀ G : Gh, fits (tyF ci j) (cv G v) = true) (hv : ∀ G : Gh, fv G w' q j (fty ci j) = cv G v) (hw : wn w' = wn w) (hsh : ∀ b, wsh w' b = wsh w b)
    (hsame : ∀ (G : Gh) (o i : Nat), ¬ (o = q ∧ i = j) → gI w' o i = gI w o i ∧ gJ w' o i = gJ w o i ∧ gP w' o i = gP w o i) (hi : InS w → okv v → InS w') (hI : ∀ (G : Gh) (H H1 : Heap), H1.size = H.size → Inv b G w H → Inv b G w' H1)
    (h : WpG b bF m (pc + 3) L S k w' Q) : WpG b bF m pc L (v :: vr q :: S) k w Q := fun p l e s mm args below meth c G n0 Z H locs ls X Y => by
  obtain ⟨C, T, h1, h2, h3, h4, h5⟩ := hf
  obtain ⟨C', T', g1, g2, g3, g4⟩ := hc
  cases Option.some.inj (h1.symm.trans g1)
  have hq1 : q ≤ 1000 := Nat.le_trans hq.2.1 Y.2.2.2.2.2.2.2.2.2
  rw [List.map_cons, mp_ref hq.1 hq1]
  refine ob_put (D := gD G) (cl := clT) (tys := tysG G) (own := (yy m).cls) (C := C) (T := T) (N := nf ci) (ci := ci) (v := cv G v) X.1 X.2.1 X.2.2.2.2.1 g2 (tyF ci) g3 g4 X.2.2.2.1 X.2.2.2.2.2.1.1 Y.2.2.2.1 (wL_D Y.2.2.2.2.2.2.2.2.1) Y.2.2.2.2.2.2.1 (q - 1) (cE_obj hq) h1 j h2 (X.2.2.2.2.1 _ h3) ?_ (hn G) (hft G) (by rw [fsL_len]; exact h2) hd (fun H1 locs1 hP hS hz => ?_)
  · rcases hfi with hfi | hfi
    · exact Or.inl (h4.trans hfi)
    · rcases hdc with hdc | ⟨T2, hdc⟩
      · exact Or.inl (h4.trans hdc)
      · have := Option.some.inj (h1.symm.trans hdc)
        cases hfb : fin
        · exact Or.inl (h4.trans hfb)
        · refine Or.inr ⟨h4.trans hfb, X.2.2.2.2.2.2.1.trans hfi, h5.trans ?_⟩
          exact congrArg Prod.fst this
  · have e1 : (fsL G w q (fty ci) (nf ci)).set j (cv G v) = fsL G w' q (fty ci) (nf ci) := by
      refine fsL_set h2 (hv G) (fun i hi2 => ?_)
      obtain ⟨a1, a2, a3⟩ := hsame G q i (fun z => hi2 z.2)
      unfold fv
      split
      · rw [a2]
      · rw [a3]
      · rw [a1]
    have e2 : (wL G w).set (q - 1) (gB G + q, .inr (ci, (fsL G w q (fty ci) (nf ci)).set j (cv G v))) = wL G w' := by
      refine wL_set hq.1 hw ?_ (fun o ho => ?_)
      · rw [e1]
        unfold cE
        rw [hsh q, hq.2.2]
        rfl
      · exact cE_congr (hsh o) (fun i => (hsame G o i (fun z => ho z.1)).1) (fun i => (hsame G o i (fun z => ho z.1)).2.1) (fun i => (hsame G o i (fun z => ho z.1)).2.2)
    rw [e2] at hP
    exact h p l e s mm args below meth c G n0 Z H1 locs1 ls X (Y.put hP hS (hi Y.2.2.2.2.1 (okv_hd Y.2.2.1)) (hI G H H1 hz Y.2.2.2.2.2.1) hw (okv_tl (okv_tl Y.2.2.1)))
theorem up2_ne {α : Type} {f : Nat → Nat → α} {o k b j : Nat} {v : α} (h : ¬ (b = o ∧ j = k)) : up2 f o k v b j = f b j := if_neg h
theorem up2_eq {α : Type} {f : Nat → Nat → α} {o k : Nat} {v : α} : up2 f o k v o k = v := if_pos ⟨rfl, rfl⟩
theorem gI_self {w : Wo} {o k : Nat} {v : Int} : gI (uI w o k v) o k = v := up2_eq
theorem gJ_self {w : Wo} {o k : Nat} {v : Int} : gJ (uJ w o k v) o k = v := up2_eq
theorem gP_self {w : Wo} {o k : Nat} {v : Nat} : gP (uP w o k v) o k = v := up2_eq
theorem wp_putI {idx ci j q : Nat} {x : Int} (hd : decode (cd m) pc = .ok (.putfield idx, 3)) (hf : FLP (yy m).cls idx ci j false) (hc : ClP ci) (ht : fty ci j = 1 ∧ tyF ci j = .int) (hq : oq w q (0, ci)) (h : ∀ w', w' = uI w q j x → WpG b bF m (pc + 3) L S k w' Q) : WpG b bF m pc L (vi x :: vr q :: S) k w Q :=
  wp_putG (v := vi x) (w' := uI w q j x) hd hf (Or.inl rfl) (Or.inl rfl) hc hq (fun G => by rw [ht.2]; rfl) (fun G => by rw [ht.2]; rfl) (fun G => by rw [ht.1]; show Value.int (Int32.ofInt (gI _ _ _)) = _; rw [gI_self]; rfl) rfl (fun _ => rfl) (fun G o i hz => ⟨up2_ne hz, rfl, rfl⟩) (fun hi ho => hi.uI ho) (fun G H H1 hz hI => hI.uI hz q j x) (h _ rfl)
theorem nar_z {x : Int} (h : x = 0 ∨ x = 1) : narrow .boolean (.int (Int32.ofInt x)) = .int (Int32.ofInt x) ∧ fits .boolean (.int (Int32.ofInt x)) = true := by
  rcases h with rfl | rfl <;> decide
theorem wp_putZ {idx ci j q : Nat} {x : Int} (hd : decode (cd m) pc = .ok (.putfield idx, 3)) (hf : FLP (yy m).cls idx ci j false) (hc : ClP ci) (ht : fty ci j = 1 ∧ tyF ci j = .boolean) (hq : oq w q (0, ci)) (hx : x = 0 ∨ x = 1) (h : ∀ w', w' = uI w q j x → WpG b bF m (pc + 3) L S k w' Q) : WpG b bF m pc L (vi x :: vr q :: S) k w Q :=
  wp_putG (v := vi x) (w' := uI w q j x) hd hf (Or.inl rfl) (Or.inl rfl) hc hq (fun G => by rw [ht.2]; exact (nar_z hx).1) (fun G => by rw [ht.2]; exact (nar_z hx).2) (fun G => by rw [ht.1]; show Value.int (Int32.ofInt (gI _ _ _)) = _; rw [gI_self]; rfl) rfl (fun _ => rfl) (fun G o i hz => ⟨up2_ne hz, rfl, rfl⟩) (fun hi ho => hi.uI ho) (fun G H H1 hz hI => hI.uI hz q j x) (h _ rfl)
theorem wp_putJ {idx ci j q : Nat} {x : Int} (hd : decode (cd m) pc = .ok (.putfield idx, 3)) (hf : FLP (yy m).cls idx ci j false) (hc : ClP ci) (ht : fty ci j = 2 ∧ tyF ci j = .long) (hq : oq w q (0, ci)) (h : ∀ w', w' = uJ w q j x → WpG b bF m (pc + 3) L S k w' Q) : WpG b bF m pc L (vl x :: vr q :: S) k w Q :=
  wp_putG (v := vl x) (w' := uJ w q j x) hd hf (Or.inl rfl) (Or.inl rfl) hc hq (fun G => by rw [ht.2]; rfl) (fun G => by rw [ht.2]; rfl) (fun G => by rw [ht.1]; show Value.long (Int64.ofInt (gJ _ _ _)) = _; rw [gJ_self]; rfl) rfl (fun _ => rfl) (fun G o i hz => ⟨rfl, up2_ne hz, rfl⟩) (fun hi ho => hi.uJ ho) (fun G H H1 hz hI => hI.uJ hz q j x) (h _ rfl)
/-- a reference is written into an object: at construction anything, later as the layout allows -/
theorem fitsR {ty : FieldType} (ht : (∃ n, ty = .object n) ∨ ∃ t, ty = .array t) (r : Option Nat) : narrow ty (va_rf r) = va_rf r ∧ fits ty (va_rf r) = true := by
  rcases ht with ⟨n, rfl⟩ | ⟨t, rfl⟩ <;> cases r <;> exact ⟨rfl, rfl⟩
theorem wp_putP {idx ci j q v : Nat} {fin : Bool} (hd : decode (cd m) pc = .ok (.putfield idx, 3)) (hf : FLP (yy m).cls idx ci j fin) (hfi : fin = false ∨ (yy m).name = "<init>") (hdc : fin = false ∨ ∃ T, clT[ci]? = some ((yy m).cls, T, nf ci)) (hc : ClP ci) (ht : fty ci j = 5 ∧ ((∃ n, tyF ci j = .object n) ∨ ∃ t, tyF ci j = .array t)) (hq : oq w q (0, ci)) (hI : b = true → LY w → LY (uP w q j v)) (h : ∀ w', w' = uP w q j v → WpG b bF m (pc + 3) L S k w' Q) : WpG b bF m pc L (vr v :: vr q :: S) k w Q :=
  wp_putG (v := vr v) (w' := uP w q j v) hd hf hfi hdc hc hq (fun G => (fitsR ht.2 _).1) (fun G => (fitsR ht.2 _).2) (fun G => by rw [ht.1]; show va_rf (cr G (gP _ _ _)) = _; rw [gP_self]; rfl) rfl (fun _ => rfl) (fun G o i hz => ⟨rfl, rfl, up2_ne hz⟩) (fun hi _ => hi) (fun G H H1 hz hh => by
    cases b
    · exact Eq.trans hz hh
    · exact hI rfl hh) (h _ rfl)
theorem inA_a {w : Wo} {a t : Nat} {i : Int} (h : inA w a t i) : i.toNat < (wsh w a).2 ∧ vp_in (Int32.ofInt i) (wsh w a).2 ∧ (Int32.ofInt i).toNatClampNeg = i.toNat := by
  obtain ⟨-, -, -, h1, h2, h3⟩ := h
  exact ⟨by omega, i32_in h1 h2 h3, i32_cl h1 (by omega)⟩
theorem wp_iaload {a : Nat} {i : Int} (hd : decode (cd m) pc = .ok (.iaload, 1)) (ha : inA w a 1 i) (h : WpG b bF m (pc + 1) L (vi (gI w a i.toNat) :: S) k w Q) : WpG b bF m pc L (vi i :: vr a :: S) k w Q := fun p l e s mm args below meth c G n0 Z H locs ls X Y => by
  obtain ⟨h1, h2, h3⟩ := inA_a ha
  have hq1 : a ≤ 1000 := Nat.le_trans ha.2.1 Y.2.2.2.2.2.2.2.2.2
  have hh := h p l e s mm args below meth c G n0 Z H locs ls X (Y.stk (okv_cons (Y.2.2.2.2.1.1 _ _) (okv_tl (okv_tl Y.2.2.1))))
  rw [List.map_cons, mp_ref ha.1 hq1]
  refine va_iald X.1 X.2.1 X.2.2.2.2.2.1.1 Y.2.2.2.1 (a - 1) 0 (cE_int ha.1 ha.2.1 ha.2.2.1 (Or.inl rfl)) rfl h2 hd ?_
  rw [h3]
  exact hh
theorem wp_baload {a : Nat} {i : Int} (hd : decode (cd m) pc = .ok (.baload, 1)) (ha : inA w a 3 i) (h : WpG b bF m (pc + 1) L (vi (gI w a i.toNat) :: S) k w Q) : WpG b bF m pc L (vi i :: vr a :: S) k w Q := fun p l e s mm args below meth c G n0 Z H locs ls X Y => by
  obtain ⟨h1, h2, h3⟩ := inA_a ha
  have hq1 : a ≤ 1000 := Nat.le_trans ha.2.1 Y.2.2.2.2.2.2.2.2.2
  have hh := h p l e s mm args below meth c G n0 Z H locs ls X (Y.stk (okv_cons (Y.2.2.2.2.1.1 _ _) (okv_tl (okv_tl Y.2.2.1))))
  rw [List.map_cons, mp_ref ha.1 hq1]
  refine va_bald X.1 X.2.1 X.2.2.2.2.2.1.1 Y.2.2.2.1 (a - 1) 2 (cE_int ha.1 ha.2.1 ha.2.2.1 (Or.inr (Or.inl rfl))) rfl h2 hd ?_
  rw [h3]
  exact hh
theorem wp_zaload {a : Nat} {i : Int} (hd : decode (cd m) pc = .ok (.baload, 1)) (ha : inA w a 4 i) (h : WpG b bF m (pc + 1) L (vi (gI w a i.toNat) :: S) k w Q) : WpG b bF m pc L (vi i :: vr a :: S) k w Q := fun p l e s mm args below meth c G n0 Z H locs ls X Y => by
  obtain ⟨h1, h2, h3⟩ := inA_a ha
  have hq1 : a ≤ 1000 := Nat.le_trans ha.2.1 Y.2.2.2.2.2.2.2.2.2
  have hh := h p l e s mm args below meth c G n0 Z H locs ls X (Y.stk (okv_cons (Y.2.2.2.2.1.1 _ _) (okv_tl (okv_tl Y.2.2.1))))
  rw [List.map_cons, mp_ref ha.1 hq1]
  refine va_zald X.1 X.2.1 X.2.2.2.2.2.1.1 Y.2.2.2.1 (a - 1) 3 (cE_int ha.1 ha.2.1 ha.2.2.1 (Or.inr (Or.inr rfl))) rfl h2 hd ?_
  rw [h3]
  exact hh
theorem wp_laload {a : Nat} {i : Int} (hd : decode (cd m) pc = .ok (.laload, 1)) (ha : inA w a 2 i) (h : WpG b bF m (pc + 1) L (vl (gJ w a i.toNat) :: S) k w Q) : WpG b bF m pc L (vi i :: vr a :: S) k w Q := fun p l e s mm args below meth c G n0 Z H locs ls X Y => by
  obtain ⟨h1, h2, h3⟩ := inA_a ha
  have hq1 : a ≤ 1000 := Nat.le_trans ha.2.1 Y.2.2.2.2.2.2.2.2.2
  have hh := h p l e s mm args below meth c G n0 Z H locs ls X (Y.stk (okv_cons (Y.2.2.2.2.1.2 _ _) (okv_tl (okv_tl Y.2.2.1))))
  rw [List.map_cons, mp_ref ha.1 hq1]
  refine va_lald X.1 X.2.1 X.2.2.2.2.2.1.1 Y.2.2.2.1 (a - 1) 1 (cE_long ha.1 ha.2.1 ha.2.2.1) rfl h2 hd ?_
  rw [h3]
  exact hh
theorem wp_aaload {a : Nat} {i : Int} {v : Nat} (hd : decode (cd m) pc = .ok (.aaload, 1)) (ha : inA w a 5 i) (hv : gP w a i.toNat = v) (h : WpG b bF m (pc + 1) L (vr v :: S) k w Q) : WpG b bF m pc L (vi i :: vr a :: S) k w Q := fun p l e s mm args below meth c G n0 Z H locs ls X Y => by
  obtain ⟨h1, h2, h3⟩ := inA_a ha
  have hq1 : a ≤ 1000 := Nat.le_trans ha.2.1 Y.2.2.2.2.2.2.2.2.2
  have hh := h p l e s mm args below meth c G n0 Z H locs ls X (Y.stk (okv_cons trivial (okv_tl (okv_tl Y.2.2.1))))
  rw [List.map_cons, mp_ref ha.1 hq1]
  refine va_aldq X.1 X.2.1 X.2.2.2.2.2.1.1 Y.2.2.2.1 (a - 1) 4 (cE_refs ha.1 ha.2.1 ha.2.2.1) rfl h2 hd ?_
  rw [h3, hv]
  exact hh
end Rows
