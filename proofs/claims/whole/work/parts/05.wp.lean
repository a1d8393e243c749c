/-- the strings that the class reads: where they stand, what they hold -/
def stT : List (String × Nat × String) := [("PlanDesk$Tokens", 73, "count"), ("PlanDesk$Tokens", 74, "sum"), ("PlanDesk$Tokens", 76, "least"), ("PlanDesk$Tokens", 78, "most"), ("PlanDesk$Tokens", 63, "is"), ("PlanDesk", 51, "the tape has a FAULT"), ("PlanDesk", 102, "no such RULE"), ("PlanDesk", 119, "a RULE has no such number"), ("PlanDesk", 121, "no such LITERAL"), ("PlanDesk", 138, "a LITERAL has no such number")]
def stB : List (List Int32) := [[99, 111, 117, 110, 116], [115, 117, 109], [108, 101, 97, 115, 116], [109, 111, 115, 116], [105, 115]]
def stN : List Nat := [5, 3, 5, 4, 2]
def thZ : List (String × String × String) := [("java/lang/Throwable", "UNASSIGNED_STACK", "[Ljava/lang/StackTraceElement;"), ("java/lang/Throwable", "SUPPRESSED_SENTINEL", "Ljava/util/List;")]
/-- links of private constructors -/
def NWL : List (String × Nat × MethodName × String) := [("PlanDesk", 9, ⟨"PlanDesk$Tape", "<init>", "()V"⟩, "PlanDesk"), ("PlanDesk", 18, ⟨"PlanDesk$Reader", "<init>", "()V"⟩, "PlanDesk"), ("PlanDesk$Reader", 11, ⟨"PlanDesk$Tokens", "<init>", "()V"⟩, "PlanDesk"), ("PlanDesk$Clause", 11, ⟨"PlanDesk$Literal", "<init>", "()V"⟩, "PlanDesk"), ("PlanDesk$Reader", 27, ⟨"PlanDesk$Facts", "<init>", "()V"⟩, "PlanDesk"), ("PlanDesk", 25, ⟨"PlanDesk$Book", "<init>", "()V"⟩, "PlanDesk"), ("PlanDesk$Book", 11, ⟨"PlanDesk$Rules", "<init>", "()V"⟩, "PlanDesk")]
def DCL : List MethodName := [⟨"java/lang/RuntimeException", "<init>", "(Ljava/lang/String;)V"⟩, ⟨"java/lang/Exception", "<init>", "(Ljava/lang/String;)V"⟩, ⟨"java/lang/Throwable", "<init>", "(Ljava/lang/String;)V"⟩]
def CSL : List String := ["java/lang/IllegalArgumentException", "java/util/NoSuchElementException"]
/-- words that ride by laws of their own: an array of references can be made, constructors are declared, an exception is one of its own class -/
def SK2 (s : State) : Prop := va_AO RLit s ∧ (∀ y ∈ DCL, va_Nw (.declares y) s) ∧ ∀ C ∈ CSL, va_Nw (.castable C C) s
def LsZ (t : String × String × String) (s : State) : Prop := (Cond.laysStatic t.1 t.2.1 t.2.2).before #[] s = true
def SK (G : Gh) (s : State) : Prop := vk_S 5 stN stB (fun i => gA G (1001 + i)) (fun i => gA G (2001 + i)) (fun q => gB G < q) s s.heap ∧ (∀ (i : Nat) (t : String × Nat × String), stT[i]? = some t → vk_R t.1 t.2.1 t.2.2 (gA G (1001 + i)) s) ∧ va_Z "java/lang/String" "COMPACT_STRINGS" "Z" (.int 1) (fun q => gB G < q) s s.heap ∧ (∃ q, (q = 0 ∨ q = 3000) ∧ va_Z "jdk/internal/util/Preconditions" "SIOOBE_FORMATTER" "Ljava/util/function/BiFunction;" (va_rf (cr G q)) (fun q => gB G < q) s s.heap) ∧ (∀ t ∈ thZ, (∃ r : Option Nat, va_Z t.1 t.2.1 t.2.2 (va_rf r) (fun q => gB G < q) s s.heap) ∧ LsZ t s) ∧ (∀ t ∈ NWL, va_Nw (.methodLinkNest t.1 t.2.1 t.2.2.1 t.2.2.2) s) ∧ SK2 s
theorem SK2.moved {s U : State} (hW : s.WarmedH U.vm) (h : SK2 s) : SK2 U := ⟨va_AO.moved hW.alike h.1, fun y hy => va_Nw.warmD hW (h.2.1 y hy), fun C hC => va_Nw.warmC hW (h.2.2 C hC)⟩
theorem SK2.same {s U : State} (hW : s.vm = U.vm) (h : SK2 s) : SK2 U := ⟨va_AO.moved (by rw [hW]; exact Vm.Alike.refl _) h.1, fun y hy => va_Nw.same rfl hW (h.2.1 y hy), fun C hC => va_Nw.same rfl hW (h.2.2 C hC)⟩
theorem LsZ.moved {t : String × String × String} {A : Nat → Prop} {v : Value} {s U : State} (hW : s.vm.Alike U.vm) (hk : ∀ a : Nat, a < s.heap.size → ¬ A a → U.heap[a]? = s.heap[a]?) (hz : va_Z t.1 t.2.1 t.2.2 v A s s.heap) (h : LsZ t s) : LsZ t U := by
  obtain ⟨cf, kf, fi, f, a, cell, h1, h2, h3, h4, h5, h6, h7, h8⟩ := hz
  have h9 := Cond.laysStatic_setVm hW h
  obtain ⟨c, k, i, f', a', cell', g1, g2, g3, g4, g5, g6, g7, g8, g9⟩ := Cond.laysStatic_spec h9
  obtain ⟨k', hk', he⟩ := State.fieldFound?_setVm hW h1
  have e1 := hk'.symm.trans g2
  injection e1 with e1
  injection e1 with e1 e2
  injection e2 with e2 e3
  injection e3 with e3 e4
  have ea : a = a' := by
    rw [← e2, he] at g4
    exact Option.some.inj (h4.symm.trans g4)
  subst ea
  have g5' : s.heap[a]? = some cell' := g5
  exact Cond.laysStatic_of (s := U) g1 g2 g3 g4 ((hk a (Array.getElem?_eq_some_iff.mp g5').1 h8).trans g5') g6 g7 g8 g9
theorem SK.moved {G : Gh} {s U : State} (hW : s.WarmedH U.vm) (hk : ∀ a : Nat, a < s.heap.size → ¬ gB G < a → U.heap[a]? = s.heap[a]?) (h : SK G s) : SK G U := by
  obtain ⟨h1, h2, h3, ⟨q, h4, h5⟩, h6, h7, h8⟩ := h
  refine ⟨(vk_S.moved hW.alike h1).kept hk, fun i t hi => (h2 i t hi).warm hW, (va_Z.moved hW.alike h3).kept hk, ⟨q, h4, (va_Z.moved hW.alike h5).kept hk⟩, fun t ht => ?_, fun t ht => (h7 t ht).warmM hW, h8.moved hW⟩
  obtain ⟨⟨r, hr⟩, hr2⟩ := h6 t ht
  exact ⟨⟨r, (va_Z.moved hW.alike hr).kept hk⟩, hr2.moved hW.alike hk hr⟩
theorem SK.calling {G : Gh} {U : State} {g : JFrame} {mk : MethodId} {a : Array Value} (h : SK G U) : SK G (U.calling g mk a) := by
  obtain ⟨h1, h2, h3, ⟨q, h4, h5⟩, h6, h7, h8⟩ := h
  refine ⟨(vk_S.moved (u := U) (U := U.calling g mk a) (Vm.Alike.refl U.vm) h1).kept (fun _ _ _ => rfl), fun i t hi => (h2 i t hi).same rfl, (va_Z.moved (u := U) (U := U.calling g mk a) (Vm.Alike.refl U.vm) h3).kept (fun _ _ _ => rfl), ⟨q, h4, (va_Z.moved (u := U) (U := U.calling g mk a) (Vm.Alike.refl U.vm) h5).kept (fun _ _ _ => rfl)⟩, fun t ht => ?_, fun t ht => (h7 t ht).same rfl rfl, h8.same rfl⟩
  obtain ⟨⟨r, hr⟩, hr2⟩ := h6 t ht
  exact ⟨⟨r, (va_Z.moved (u := U) (U := U.calling g mk a) (Vm.Alike.refl U.vm) hr).kept (fun _ _ _ => rfl)⟩, hr2.moved (U := U.calling g mk a) (Vm.Alike.refl U.vm) (fun _ _ _ => rfl) hr⟩
/-- the law's script -/
def SX (xs : List Int) (G : Gh) (s : State) : Prop := va_X (gA G 4000) xs.length (fun j => Int32.ofInt (xs.getD j 0)) s s.heap ∧ ¬ gB G < gA G 4000 ∧ xs.length ≤ 2048 ∧ ∀ j, inr32 (xs.getD j 0)
/-! THE JUDGEMENT Wp: from this place of method m, with these locals, this stack and this world, the method comes to its end with Q. -/
def tysG (G : Gh) : List (ClassId × FieldType) := [(gC G 1, .int), (gC G 2, .long), (gC G 3, .byte), (gC G 4, .boolean), (gC G 5, .object RLit)]
def KK (G : Gh) (s : State) : Prop := va_K (gD G) clT (tysG G) s ∧ SK G s ∧ gB G < s.heap.size
def Inv (b : Bool) (G : Gh) (w : Wo) (H : Heap) : Prop := match b with
  | true => LY w
  | false => H.size = gB G + wn w + 1
def lvh (G : Gh) (ls : Array Slot) (n : Nat) (L : List (Nat × AV)) : Prop := lv_has ls n (L.map (fun q => (q.1, cv G q.2)))
def Wy (b : Bool) (G : Gh) (n0 : Nat) (s : State) (n : Nat) (L : List (Nat × AV)) (S : List AV) (w : Wo) (H : Heap) (locs : List Loc) (ls : Array Slot) : Prop :=
  lvh G ls n L ∧ (∀ q ∈ L, okv q.2) ∧ (∀ v ∈ S, okv v) ∧ va_P (gD G) clT (wL G w) H ∧ InS w ∧ Inv b G w H ∧ va_S (fr (gB G) n0 s.heap.size) s.heap H locs ∧ n0 ≤ wn w ∧ (wn w ≤ n0 ∨ s.heap.size ≤ gB G + n0 + 1) ∧ wn w ≤ 1000
/-- what is left on the stack for an end: the answer, or nothing (also where something is thrown) -/
def rav : Option AV → List AV
  | none => []
  | some (.inr (.inr _)) => []
  | some v => [v]
def RetAt (m : MR) (pc : Nat) (k : Nat × Nat) : Option AV → Prop
  | none => decode (cd m) pc = .ok (.return_, 1) ∧ rtt m = none
  | some (.inl x) => decode (cd m) pc = .ok (.ireturn, 1) ∧ ∃ ty, rtt m = some ty ∧ narrow ty (.int (Int32.ofInt x)) = .int (Int32.ofInt x)
  | some (.inr (.inl _)) => decode (cd m) pc = .ok (.lreturn, 1) ∧ rtt m = some .long
  | some (.inr (.inr q)) => thr m = true ∧ q = pc ∧ k = (0, 0)
def Wx (m : MR) (Q : Option AV → Wo → Prop) (p : Program) (l : Launch) (e : Env) (s : State) (mm : MethodId) (args : Array Value) (below : List Frame) (meth : Method) (c : Code) (bF : Bool) (G : Gh) (n0 : Nat) (Z : State → Prop) : Prop :=
  p.tables.exec = Jvm.exec ∧ c.code = cd m ∧ c.maxLocals = nLo m ∧ s.vm.findClass (yy m).cls = some mm.cls ∧ (∀ w ∈ AW, w.before args s = true) ∧ KK G s ∧ meth.name = (yy m).name ∧ l.stackTraces = false ∧ (∀ xs, scr m = some xs → SX xs G s) ∧
  ∀ (H : Heap) (locs : List Loc) (ls : Array Slot) (pc : Nat) (k : Nat × Nat) (r : Option AV) (w : Wo), Q r w → Wy bF G n0 s (nLo m) [] (rav r) w H locs ls → k.1 ≤ (rmm m).cells → k.2 ≤ (rmm m).slots → RetAt m pc k r →
    W p l e (rmm m) s mm args below meth c H locs k.1 k.2 Z (F0 mm pc ls ((rav r).map (cv G)))
def WpG (b bF : Bool) (m : MR) (pc : Nat) (L : List (Nat × AV)) (S : List AV) (k : Nat × Nat) (w : Wo) (Q : Option AV → Wo → Prop) : Prop :=
  ∀ (p : Program) (l : Launch) (e : Env) (s : State) (mm : MethodId) (args : Array Value) (below : List Frame) (meth : Method) (c : Code) (G : Gh) (n0 : Nat) (Z : State → Prop) (H : Heap) (locs : List Loc) (ls : Array Slot),
    Wx m Q p l e s mm args below meth c bF G n0 Z → Wy b G n0 s (nLo m) L S w H locs ls → W p l e (rmm m) s mm args below meth c H locs k.1 k.2 Z (F0 mm pc ls (S.map (cv G)))
abbrev Wp := WpG true true
abbrev Wc := WpG false false
theorem Inv.uI {b : Bool} {G : Gh} {w : Wo} {H H1 : Heap} (h : Inv b G w H) (hz : H1.size = H.size) (o k : Nat) (v : Int) : Inv b G (uI w o k v) H1 := by
  cases b
  · exact Eq.trans hz h
  · exact h
theorem Inv.uJ {b : Bool} {G : Gh} {w : Wo} {H H1 : Heap} (h : Inv b G w H) (hz : H1.size = H.size) (o k : Nat) (v : Int) : Inv b G (uJ w o k v) H1 := by
  cases b
  · exact Eq.trans hz h
  · exact h
section Rows
variable {b bF : Bool} {m : MR} {pc : Nat} {L L' : List (Nat × AV)} {S : List AV} {k : Nat × Nat} {w : Wo} {Q : Option AV → Wo → Prop}
theorem Wy.stk {G : Gh} {n0 : Nat} {s : State} {n : Nat} {H : Heap} {locs : List Loc} {ls : Array Slot} {S' : List AV} (Y : Wy b G n0 s n L S w H locs ls) (h : ∀ v ∈ S', okv v) : Wy b G n0 s n L S' w H locs ls := ⟨Y.1, Y.2.1, h, Y.2.2.2⟩
theorem okv_cons {v : AV} {S : List AV} (h : okv v) (hs : ∀ x ∈ S, okv x) : ∀ x ∈ v :: S, okv x := fun x hx => by
  rcases List.mem_cons.mp hx with rfl | h2
  · exact h
  · exact hs x h2
theorem okv_tl {v : AV} {S : List AV} (h : ∀ x ∈ v :: S, okv x) : ∀ x ∈ S, okv x := fun x hx => h x (List.mem_cons_of_mem _ hx)
theorem okv_hd {v : AV} {S : List AV} (h : ∀ x ∈ v :: S, okv x) : okv v := h v List.mem_cons_self
/-- what is on the stack is in its range -/
theorem wp_rng {x : Int} (h : inr32 x → WpG b bF m pc L (vi x :: S) k w Q) : WpG b bF m pc L (vi x :: S) k w Q := fun p l e s mm args below meth c G n0 Z H locs ls X Y => h (okv_hd Y.2.2.1) p l e s mm args below meth c G n0 Z H locs ls X Y
theorem wp_rngL {x : Int} (i : Nat) {j : Nat} (hj : L[i]? = some (j, vi x)) (h : inr32 x → WpG b bF m pc L S k w Q) : WpG b bF m pc L S k w Q := fun p l e s mm args below meth c G n0 Z H locs ls X Y => h (Y.2.1 _ (List.mem_of_getElem? hj)) p l e s mm args below meth c G n0 Z H locs ls X Y
theorem wp_rngJ {x : Int} (i : Nat) {j : Nat} (hj : L[i]? = some (j, vl x)) (h : inr64 x → WpG b bF m pc L S k w Q) : WpG b bF m pc L S k w Q := fun p l e s mm args below meth c G n0 Z H locs ls X Y => h (Y.2.1 _ (List.mem_of_getElem? hj)) p l e s mm args below meth c G n0 Z H locs ls X Y
theorem wp_ins (h : InS w → WpG b bF m pc L S k w Q) : WpG b bF m pc L S k w Q := fun p l e s mm args below meth c G n0 Z H locs ls X Y => h Y.2.2.2.2.1 p l e s mm args below meth c G n0 Z H locs ls X Y
theorem wp_ly (h : LY w → WpG true bF m pc L S k w Q) : WpG true bF m pc L S k w Q := fun p l e s mm args below meth c G n0 Z H locs ls X Y => h Y.2.2.2.2.2.1 p l e s mm args below meth c G n0 Z H locs ls X Y
theorem wp_seal (hl : LY w) (h : WpG true bF m pc L S k w Q) : WpG false bF m pc L S k w Q := fun p l e s mm args below meth c G n0 Z H locs ls X Y => h p l e s mm args below meth c G n0 Z H locs ls X ⟨Y.1, Y.2.1, Y.2.2.1, Y.2.2.2.1, Y.2.2.2.2.1, hl, Y.2.2.2.2.2.2⟩
def pkA (L : List (Nat × AV)) (ks : List Nat) : List (Nat × AV) := ks.filterMap (fun k => L[k]?)
theorem wp_pick (ks : List Nat) (hl : pkA L ks = L') (h : WpG b bF m pc L' S k w Q) : WpG b bF m pc L S k w Q := by
  intro p l e s mm args below meth c G n0 Z H locs ls X Y
  refine h p l e s mm args below meth c G n0 Z H locs ls X ⟨lv_sub Y.1 ks ?_, fun q hq => ?_, Y.2.2⟩
  · rw [← hl]
    unfold lv_pick pkA
    rw [List.map_filterMap]
    congr 1
    funext i
    rw [List.getElem?_map]
  · rw [← hl] at hq
    obtain ⟨i, -, hi⟩ := List.mem_filterMap.mp hq
    exact Y.2.1 q (List.mem_of_getElem? hi)
theorem wp_iconst {n : Int} (hd : decode (cd m) pc = .ok (.iconst n, 1)) (hr : inr32 n) (h : WpG b bF m (pc + 1) L (vi n :: S) k w Q) : WpG b bF m pc L S k w Q := fun p l e s mm args below meth c G n0 Z H locs ls X Y =>
  lv_iconst X.1 X.2.1 hd rfl (h p l e s mm args below meth c G n0 Z H locs ls X (Y.stk (okv_cons hr Y.2.2.1)))
theorem wp_bipush {n : Int} (hd : decode (cd m) pc = .ok (.bipush n, 2)) (hv : (Int8.ofInt n).toInt32 = Int32.ofInt n) (hr : inr32 n) (h : WpG b bF m (pc + 2) L (vi n :: S) k w Q) : WpG b bF m pc L S k w Q := fun p l e s mm args below meth c G n0 Z H locs ls X Y =>
  lv_bipush X.1 X.2.1 hd hv (h p l e s mm args below meth c G n0 Z H locs ls X (Y.stk (okv_cons hr Y.2.2.1)))
theorem wp_sipush {n : Int} (hd : decode (cd m) pc = .ok (.sipush n, 3)) (hv : (Int16.ofInt n).toInt32 = Int32.ofInt n) (hr : inr32 n) (h : WpG b bF m (pc + 3) L (vi n :: S) k w Q) : WpG b bF m pc L S k w Q := fun p l e s mm args below meth c G n0 Z H locs ls X Y =>
  lv_sipush X.1 X.2.1 hd hv (h p l e s mm args below meth c G n0 Z H locs ls X (Y.stk (okv_cons hr Y.2.2.1)))
theorem wp_lconst {n : Fin 2} (hd : decode (cd m) pc = .ok (.lconst n, 1)) {x : Int} (hv : Int64.ofNat (n : Nat) = Int64.ofInt x) (hr : inr64 x) (h : WpG b bF m (pc + 1) L (vl x :: S) k w Q) : WpG b bF m pc L S k w Q := fun p l e s mm args below meth c G n0 Z H locs ls X Y =>
  lv_lconst X.1 X.2.1 hd hv (h p l e s mm args below meth c G n0 Z H locs ls X (Y.stk (okv_cons hr Y.2.2.1)))
theorem wp_ldc {idx : Nat} (hd : decode (cd m) pc = .ok (.ldc idx, 2)) {x : Int} (hc : Jvm.Cond.constant (yy m).cls idx (Int32.ofInt x) ∈ AW) (hr : inr32 x) (h : WpG b bF m (pc + 2) L (vi x :: S) k w Q) : WpG b bF m pc L S k w Q := fun p l e s mm args below meth c G n0 Z H locs ls X Y =>
  lv_ldc X.1 X.2.1 X.2.2.2.1 (X.2.2.2.2.1 _ hc) hd (h p l e s mm args below meth c G n0 Z H locs ls X (Y.stk (okv_cons hr Y.2.2.1)))
theorem wp_ldc2 {idx : Nat} (hd : decode (cd m) pc = .ok (.ldc2_w idx, 3)) {x : Int} (hc : Jvm.Cond.constantLong (yy m).cls idx (Int64.ofInt x) ∈ AW) (hr : inr64 x) (h : WpG b bF m (pc + 3) L (vl x :: S) k w Q) : WpG b bF m pc L S k w Q := fun p l e s mm args below meth c G n0 Z H locs ls X Y =>
  lv_ldc2 X.1 X.2.1 X.2.2.2.1 (X.2.2.2.2.1 _ hc) hd (h p l e s mm args below meth c G n0 Z H locs ls X (Y.stk (okv_cons hr Y.2.2.1)))
theorem lvh_at {G : Gh} {ls : Array Slot} {n i : Nat} {v : AV} (h : lvh G ls n L) (j : Nat) (hj : L[j]? = some (i, v)) : ls[i]? = some (.val (cv G v)) := lv_at h j (by rw [List.getElem?_map, hj]; rfl)
theorem wp_iload_n {kk : Fin 4} (hd : decode (cd m) pc = .ok (.iload_n kk, 1)) {i : Nat} (hi : (kk : Nat) = i) (j : Nat) {x : Int} (hj : L[j]? = some (i, vi x)) (h : WpG b bF m (pc + 1) L (vi x :: S) k w Q) : WpG b bF m pc L S k w Q := fun p l e s mm args below meth c G n0 Z H locs ls X Y =>
  lv_iload_n X.1 X.2.1 hd hi (lvh_at Y.1 j hj) (h p l e s mm args below meth c G n0 Z H locs ls X (Y.stk (okv_cons (Y.2.1 _ (List.mem_of_getElem? hj)) Y.2.2.1)))
theorem wp_iload {i : Nat} (hd : decode (cd m) pc = .ok (.iload i, 2)) (j : Nat) {x : Int} (hj : L[j]? = some (i, vi x)) (h : WpG b bF m (pc + 2) L (vi x :: S) k w Q) : WpG b bF m pc L S k w Q := fun p l e s mm args below meth c G n0 Z H locs ls X Y =>
  lv_iload X.1 X.2.1 hd (lvh_at Y.1 j hj) (h p l e s mm args below meth c G n0 Z H locs ls X (Y.stk (okv_cons (Y.2.1 _ (List.mem_of_getElem? hj)) Y.2.2.1)))
theorem wp_lload_n {kk : Fin 4} (hd : decode (cd m) pc = .ok (.lload_n kk, 1)) {i : Nat} (hi : (kk : Nat) = i) (j : Nat) {x : Int} (hj : L[j]? = some (i, vl x)) (h : WpG b bF m (pc + 1) L (vl x :: S) k w Q) : WpG b bF m pc L S k w Q := fun p l e s mm args below meth c G n0 Z H locs ls X Y =>
  lv_lload_n X.1 X.2.1 hd hi (lvh_at Y.1 j hj) (h p l e s mm args below meth c G n0 Z H locs ls X (Y.stk (okv_cons (Y.2.1 _ (List.mem_of_getElem? hj)) Y.2.2.1)))
theorem wp_lload {i : Nat} (hd : decode (cd m) pc = .ok (.lload i, 2)) (j : Nat) {x : Int} (hj : L[j]? = some (i, vl x)) (h : WpG b bF m (pc + 2) L (vl x :: S) k w Q) : WpG b bF m pc L S k w Q := fun p l e s mm args below meth c G n0 Z H locs ls X Y =>
  lv_lload X.1 X.2.1 hd (lvh_at Y.1 j hj) (h p l e s mm args below meth c G n0 Z H locs ls X (Y.stk (okv_cons (Y.2.1 _ (List.mem_of_getElem? hj)) Y.2.2.1)))
theorem wp_aload_n {kk : Fin 4} (hd : decode (cd m) pc = .ok (.aload_n kk, 1)) {i : Nat} (hi : (kk : Nat) = i) (j : Nat) {q : Nat} (hj : L[j]? = some (i, vr q)) (h : WpG b bF m (pc + 1) L (vr q :: S) k w Q) : WpG b bF m pc L S k w Q := fun p l e s mm args below meth c G n0 Z H locs ls X Y => by
  have h1 := lvh_at Y.1 j hj
  have h2 := h p l e s mm args below meth c G n0 Z H locs ls X (Y.stk (okv_cons trivial Y.2.2.1))
  have e1 : (vr q :: S).map (cv G) = va_rf (cr G q) :: S.map (cv G) := rfl
  rw [e1] at h2
  have h1 : ls[i]? = some (.val (va_rf (cr G q))) := h1
  cases hc : cr G q with
  | none => rw [hc] at h1 h2; exact lv_aload_nN X.1 X.2.1 hd hi h1 h2
  | some a => rw [hc] at h1 h2; exact lv_aload_n X.1 X.2.1 hd hi h1 h2
theorem wp_aload {i : Nat} (hd : decode (cd m) pc = .ok (.aload i, 2)) (j : Nat) {q : Nat} (hj : L[j]? = some (i, vr q)) (h : WpG b bF m (pc + 2) L (vr q :: S) k w Q) : WpG b bF m pc L S k w Q := fun p l e s mm args below meth c G n0 Z H locs ls X Y => by
  have h1 := lvh_at Y.1 j hj
  have h2 := h p l e s mm args below meth c G n0 Z H locs ls X (Y.stk (okv_cons trivial Y.2.2.1))
  have e1 : (vr q :: S).map (cv G) = va_rf (cr G q) :: S.map (cv G) := rfl
  rw [e1] at h2
  have h1 : ls[i]? = some (.val (va_rf (cr G q))) := h1
  cases hc : cr G q with
  | none => rw [hc] at h1 h2; exact lv_aloadN X.1 X.2.1 hd h1 h2
  | some a => rw [hc] at h1 h2; exact lv_aload X.1 X.2.1 hd h1 h2
def isl : AV → Bool
  | .inr (.inl _) => true
  | _ => false
theorem cat_cv (G : Gh) (v : AV) : ((cv G v).category == 2) = isl v := by
  rcases v with x | x | q
  · rfl
  · rfl
  · show ((va_rf (cr G q)).category == 2) = false
    cases cr G q <;> rfl
def st1 (L : List (Nat × AV)) (i : Nat) (v : AV) : List (Nat × AV) := (i, v) :: L.filter (fun q => !(q.1 == i) && !(q.1 + 1 == i && isl q.2))
def st2 (L : List (Nat × AV)) (i : Nat) (v : AV) : List (Nat × AV) := (i, v) :: L.filter (fun q => !(q.1 == i) && (!(q.1 == i + 1) && !(q.1 + 1 == i && isl q.2)))
theorem st1_map (G : Gh) (L : List (Nat × AV)) (i : Nat) (v : AV) : (i, cv G v) :: (L.map (fun q => (q.1, cv G q.2))).filter (fun q => !(q.1 == i) && !(q.1 + 1 == i && q.2.category == 2)) = (st1 L i v).map (fun q => (q.1, cv G q.2)) := by
  unfold st1
  rw [List.map_cons, List.filter_map]
  congr 2
  refine List.filter_congr (fun q _ => ?_)
  show (!(q.1 == i) && !(q.1 + 1 == i && (cv G q.2).category == 2)) = _
  rw [cat_cv]
theorem st2_map (G : Gh) (L : List (Nat × AV)) (i : Nat) (v : AV) : (i, cv G v) :: (L.map (fun q => (q.1, cv G q.2))).filter (fun q => !(q.1 == i) && (!(q.1 == i + 1) && !(q.1 + 1 == i && q.2.category == 2))) = (st2 L i v).map (fun q => (q.1, cv G q.2)) := by
  unfold st2
  rw [List.map_cons, List.filter_map]
  congr 2
  refine List.filter_congr (fun q _ => ?_)
  show (!(q.1 == i) && (!(q.1 == i + 1) && !(q.1 + 1 == i && (cv G q.2).category == 2))) = _
  rw [cat_cv]
theorem Wy.sto {G : Gh} {n0 : Nat} {s : State} {n : Nat} {H : Heap} {locs : List Loc} {ls ls' : Array Slot} {v : AV} {i : Nat} (Y : Wy b G n0 s n L (v :: S) w H locs ls) (hs : ∀ q ∈ L', q = (i, v) ∨ q ∈ L) (hl : lvh G ls' n L') : Wy b G n0 s n L' S w H locs ls' :=
  ⟨hl, fun q hq => by rcases hs q hq with rfl | h
                      · exact okv_hd Y.2.2.1
                      · exact Y.2.1 q h, okv_tl Y.2.2.1, Y.2.2.2⟩
theorem st1_in {L : List (Nat × AV)} {i : Nat} {v : AV} : ∀ q ∈ st1 L i v, q = (i, v) ∨ q ∈ L := fun q hq => by
  rcases List.mem_cons.mp hq with h | h
  · exact Or.inl h
  · exact Or.inr (List.mem_filter.mp h).1
theorem st2_in {L : List (Nat × AV)} {i : Nat} {v : AV} : ∀ q ∈ st2 L i v, q = (i, v) ∨ q ∈ L := fun q hq => by
  rcases List.mem_cons.mp hq with h | h
  · exact Or.inl h
  · exact Or.inr (List.mem_filter.mp h).1
theorem wp_istore_n {kk : Fin 4} (hd : decode (cd m) pc = .ok (.istore_n kk, 1)) {i : Nat} (hi : (kk : Nat) = i) {x : Int} (hl : st1 L i (vi x) = L') (hn : i < nLo m) (h : WpG b bF m (pc + 1) L' S k w Q) : WpG b bF m pc L (vi x :: S) k w Q := fun p l e s mm args below meth c G n0 Z H locs ls X Y =>
  lv_istore_n X.1 X.2.1 hd hi Y.1 hn (st1_map G L i (vi x)) (fun ls' h' => h p l e s mm args below meth c G n0 Z H locs ls' X (hl ▸ Y.sto st1_in h'))
theorem wp_istore {i : Nat} (hd : decode (cd m) pc = .ok (.istore i, 2)) {x : Int} (hl : st1 L i (vi x) = L') (hn : i < nLo m) (h : WpG b bF m (pc + 2) L' S k w Q) : WpG b bF m pc L (vi x :: S) k w Q := fun p l e s mm args below meth c G n0 Z H locs ls X Y =>
  lv_istore X.1 X.2.1 hd Y.1 hn (st1_map G L i (vi x)) (fun ls' h' => h p l e s mm args below meth c G n0 Z H locs ls' X (hl ▸ Y.sto st1_in h'))
theorem wp_lstore_n {kk : Fin 4} (hd : decode (cd m) pc = .ok (.lstore_n kk, 1)) {i : Nat} (hi : (kk : Nat) = i) {x : Int} (hl : st2 L i (vl x) = L') (hn : i + 1 < nLo m) (h : WpG b bF m (pc + 1) L' S k w Q) : WpG b bF m pc L (vl x :: S) k w Q := fun p l e s mm args below meth c G n0 Z H locs ls X Y =>
  lv_lstore_n X.1 X.2.1 hd hi Y.1 hn (st2_map G L i (vl x)) (fun ls' h' => h p l e s mm args below meth c G n0 Z H locs ls' X (hl ▸ Y.sto st2_in h'))
theorem wp_lstore {i : Nat} (hd : decode (cd m) pc = .ok (.lstore i, 2)) {x : Int} (hl : st2 L i (vl x) = L') (hn : i + 1 < nLo m) (h : WpG b bF m (pc + 2) L' S k w Q) : WpG b bF m pc L (vl x :: S) k w Q := fun p l e s mm args below meth c G n0 Z H locs ls X Y =>
  lv_lstore X.1 X.2.1 hd Y.1 hn (st2_map G L i (vl x)) (fun ls' h' => h p l e s mm args below meth c G n0 Z H locs ls' X (hl ▸ Y.sto st2_in h'))
theorem wp_astore_n {kk : Fin 4} (hd : decode (cd m) pc = .ok (.astore_n kk, 1)) {i : Nat} (hi : (kk : Nat) = i) {q : Nat} (hl : st1 L i (vr q) = L') (hn : i < nLo m) (h : WpG b bF m (pc + 1) L' S k w Q) : WpG b bF m pc L (vr q :: S) k w Q := fun p l e s mm args below meth c G n0 Z H locs ls X Y => by
  have hm := st1_map G L i (vr q)
  show W p l e (rmm m) s mm args below meth c H locs k.1 k.2 Z (F0 mm pc ls (va_rf (cr G q) :: S.map (cv G)))
  have hm : (i, va_rf (cr G q)) :: (L.map (fun q => (q.1, cv G q.2))).filter (fun q => !(q.1 == i) && !(q.1 + 1 == i && q.2.category == 2)) = (st1 L i (vr q)).map (fun q => (q.1, cv G q.2)) := hm
  have kk2 : ∀ ls' : Array Slot, lv_has ls' (nLo m) ((st1 L i (vr q)).map (fun q => (q.1, cv G q.2))) → W p l e (rmm m) s mm args below meth c H locs k.1 k.2 Z (F0 mm (pc + 1) ls' (S.map (cv G))) := fun ls' h' => h p l e s mm args below meth c G n0 Z H locs ls' X (hl ▸ Y.sto st1_in h')
  cases hc : cr G q with
  | none => rw [hc] at hm; exact lv_astore_nN X.1 X.2.1 hd hi Y.1 hn hm kk2
  | some a => rw [hc] at hm; exact lv_astore_n X.1 X.2.1 hd hi Y.1 hn hm kk2
theorem wp_astore {i : Nat} (hd : decode (cd m) pc = .ok (.astore i, 2)) {q : Nat} (hl : st1 L i (vr q) = L') (hn : i < nLo m) (h : WpG b bF m (pc + 2) L' S k w Q) : WpG b bF m pc L (vr q :: S) k w Q := fun p l e s mm args below meth c G n0 Z H locs ls X Y => by
  have hm := st1_map G L i (vr q)
  show W p l e (rmm m) s mm args below meth c H locs k.1 k.2 Z (F0 mm pc ls (va_rf (cr G q) :: S.map (cv G)))
  have hm : (i, va_rf (cr G q)) :: (L.map (fun q => (q.1, cv G q.2))).filter (fun q => !(q.1 == i) && !(q.1 + 1 == i && q.2.category == 2)) = (st1 L i (vr q)).map (fun q => (q.1, cv G q.2)) := hm
  have kk2 : ∀ ls' : Array Slot, lv_has ls' (nLo m) ((st1 L i (vr q)).map (fun q => (q.1, cv G q.2))) → W p l e (rmm m) s mm args below meth c H locs k.1 k.2 Z (F0 mm (pc + 2) ls' (S.map (cv G))) := fun ls' h' => h p l e s mm args below meth c G n0 Z H locs ls' X (hl ▸ Y.sto st1_in h')
  cases hc : cr G q with
  | none => rw [hc] at hm; exact lv_astoreN X.1 X.2.1 hd Y.1 hn hm kk2
  | some a => rw [hc] at hm; exact lv_astore X.1 X.2.1 hd Y.1 hn hm kk2
theorem wp_iinc {i : Nat} {n : Int} (hd : decode (cd m) pc = .ok (.iinc i n, 3)) (j : Nat) {x : Int} (hj : L[j]? = some (i, vi x)) (hl : st1 L i (vi (x + n)) = L') (hn : i < nLo m) (ho : inr32 (x + n)) (h : WpG b bF m (pc + 3) L' S k w Q) : WpG b bF m pc L S k w Q := fun p l e s mm args below meth c G n0 Z H locs ls X Y =>
  lv_iinc X.1 X.2.1 hd Y.1 (by rw [List.getElem?_map, hj]; rfl) (by rw [Int32.ofInt_add]) hn (st1_map G L i (vi (x + n))) (fun ls' h' => h p l e s mm args below meth c G n0 Z H locs ls' X (hl ▸ (Y.stk (S' := vi (x + n) :: S) (okv_cons ho Y.2.2.1)).sto st1_in h'))
end Rows
