/-! what the start gives: the classes, the strings, the statics -/
theorem cls_kn {s : State} {args : Array Value} (hw : ∀ w ∈ AW, w.before args s = true) {m : MR} {idx ci : Nat} (hc : ClP ci) (hn : NLP m idx ci) : ∃ x : ClassId × (Nat → Nat), ∀ q, clT[ci]? = some q → u_Kn s q.1 q.2.1 q.2.2 x.1 x.2 := by
  obtain ⟨C, T, h1, -, h3, -⟩ := hn
  obtain ⟨C', T', g1, g2, -⟩ := hc
  cases Option.some.inj (h1.symm.trans g1)
  obtain ⟨cC, iS, hk⟩ := u_known (ws := AW) (C := C) (T := T) (N := nf ci) (n := nf ci) hw g2 (hw _ h3)
  exact ⟨(cC, iS), fun q hq => by cases Option.some.inj (h1.symm.trans hq); exact hk⟩
theorem cls_all {s : State} {args : Array Value} (hw : ∀ w ∈ AW, w.before args s = true) : ∃ D : va_G, ∀ (c : Nat) (q : vw_C), clT[c]? = some q → u_Kn s q.1 q.2.1 q.2.2 (D.1 c) (D.2 c) := by
  have h : ∀ c : Nat, ∃ x : ClassId × (Nat → Nat), ∀ q, clT[c]? = some q → u_Kn s q.1 q.2.1 q.2.2 x.1 x.2 := by
    intro c
    match c with
    | 0 => exact cls_kn hw cl_0 nl_D_init_23
    | 1 => exact cls_kn hw cl_1 nl_Rd_init_18
    | 2 => exact cls_kn hw cl_2 nl_Rd_init_25
    | 3 => exact cls_kn hw cl_3 nl_Cl_init_9
    | 4 => exact cls_kn hw cl_4 nl_D_init_16
    | 5 => exact cls_kn hw cl_5 nl_Bk_init_9
    | 6 => exact cls_kn hw cl_6 nl_D_init_7
    | 7 => exact cls_kn hw cl_7 nl_Rd_init_9
    | 8 => exact cls_kn hw cl_8 (nl_law_8 [])
    | 9 => exact cls_kn hw cl_9 (nl_law_26 [])
    | k + 10 => exact ⟨((0 : Nat), fun _ => 0), fun q hq => by simp [clT] at hq⟩
  obtain ⟨f, hf⟩ := Classical.axiomOfChoice h
  exact ⟨(fun c => (f c).1, fun c => (f c).2), hf⟩
theorem arr_kn {s : State} {args : Array Value} {ty : FieldType} (h : (Cond.arrayClass ty).before args s = true) : ∃ cA : ClassId, ArrOfT s cA ty ∧ s.vm.findClass ("[" ++ ty.toString) = some cA := by
  obtain ⟨c, k, comp, h1, h2, h3⟩ := Cond.arrayClass_spec h
  exact ⟨c, fun n z => ⟨fun k h => (by cases h), k, h2, comp, h3⟩, h1⟩
theorem arr_ob {s : State} (h : va_AO RLit s) : ∃ cA : ClassId, ArrOfT s cA (.object RLit) ∧ va_RA s cA (.object RLit) := by
  obtain ⟨comp, c, k, h1, h2, h3, h4, h5⟩ := Cond.arrayOver_spec h
  exact ⟨c, fun n z => ⟨fun k h => (by cases h), k, h3, comp, h4⟩, k, comp, h3, h4, h1, h5⟩
theorem arr_all {s : State} {args : Array Value} (hw : ∀ w ∈ AW, w.before args s = true) (hz : (Cond.arrayClass .boolean).before args s = true) (ho : va_AO RLit s) : ∃ gc : Nat → ClassId, ∀ (k : Nat) (q : ClassId × FieldType), [(gc 1, FieldType.int), (gc 2, .long), (gc 3, .byte), (gc 4, .boolean), (gc 5, .object RLit)][k]? = some q → ArrOfT s q.1 q.2 ∧ va_RA s q.1 q.2 := by
  obtain ⟨c1, a1, b1⟩ := arr_kn (hw _ wd_c4)
  obtain ⟨c2, a2, b2⟩ := arr_kn (hw _ wd_c3)
  obtain ⟨c3, a3, b3⟩ := arr_kn (hw _ wd_c6)
  obtain ⟨c4, a4, b4⟩ := arr_kn hz
  obtain ⟨c5, a5, b5⟩ := arr_ob ho
  refine ⟨fun t => if t = 1 then c1 else if t = 2 then c2 else if t = 3 then c3 else if t = 4 then c4 else c5, fun k q hq => ?_⟩
  match k with
  | 0 => cases hq; exact ⟨a1, b1⟩
  | 1 => cases hq; exact ⟨a2, b2⟩
  | 2 => cases hq; exact ⟨a3, b3⟩
  | 3 => cases hq; exact ⟨a4, b4⟩
  | 4 => cases hq; exact ⟨a5, b5⟩
  | k + 5 => cases hq
theorem tw1 {w : Cond} {i : Nat} (h : tables_1_1[i]? = some w) : w ∈ lw_tbl := List.mem_append_right _ (List.mem_append_left _ (List.mem_of_getElem? h))
theorem tw2 {w : Cond} {i : Nat} (h : tables_1_2[i]? = some w) : w ∈ lw_tbl := List.mem_append_right _ (List.mem_append_right _ (List.mem_append_left _ (List.mem_of_getElem? h)))
theorem tw3 {w : Cond} {i : Nat} (h : tables_1_3[i]? = some w) : w ∈ lw_tbl := List.mem_append_right _ (List.mem_append_right _ (List.mem_append_right _ (List.mem_append_left _ (List.mem_of_getElem? h))))
theorem tw4 {w : Cond} {i : Nat} (h : tables_1_4[i]? = some w) : w ∈ lw_tbl := List.mem_append_right _ (List.mem_append_right _ (List.mem_append_right _ (List.mem_append_right _ (List.mem_append_left _ (List.mem_of_getElem? h)))))
theorem tw5 {w : Cond} {i : Nat} (h : tables_1_5[i]? = some w) : w ∈ lw_tbl := List.mem_append_right _ (List.mem_append_right _ (List.mem_append_right _ (List.mem_append_right _ (List.mem_append_right _ (List.mem_append_left _ (List.mem_of_getElem? h))))))
theorem tw6 {w : Cond} {i : Nat} (h : tables_1_6[i]? = some w) : w ∈ lw_tbl := List.mem_append_right _ (List.mem_append_right _ (List.mem_append_right _ (List.mem_append_right _ (List.mem_append_right _ (List.mem_append_right _ (List.mem_of_getElem? h))))))
def GV : List Cond := flatC (Jvm.Cond.and given_1 narrow_1)
def tmS (i : Nat) : Term := .string "PlanDesk$Tokens" ([73, 74, 76, 78, 63].getD i 0)
def tmX (i : Nat) : Term := .string "PlanDesk" ([51, 102, 119, 121, 138].getD i 0)
theorem gv_ex : ∀ i, i < 5 → Cond.exactly (tmS i) "java/lang/String" ∈ GV := by decide +kernel
theorem gv_co : ∀ i, i < 5 → Cond.eq (.field (tmS i) "java/lang/String" "coder" "B") (.int 0) ∈ GV := by decide +kernel
theorem gv_ar : ∀ i, i < 5 → Cond.arrayOf (.field (tmS i) "java/lang/String" "value" "[B") .byte ∈ GV := by decide +kernel
theorem gv_le : ∀ i, i < 5 → Cond.eq (.length (.field (tmS i) "java/lang/String" "value" "[B")) (.int (Int32.ofNat (stN.getD i 0))) ∈ GV := by decide +kernel
theorem gv_el : ∀ i, i < 5 → ∀ j, j < stN.getD i 0 → Cond.eq (.elem (.field (tmS i) "java/lang/String" "value" "[B") (.int (Int32.ofNat j))) (.int ((stB.getD i []).getD j 0)) ∈ GV := by decide +kernel
theorem gv_ne : ∀ i, i < 5 → ∀ j, j < 5 → i ≠ j → Cond.not (Cond.eq (tmS i) (tmS j)) ∈ GV ∨ Cond.not (Cond.eq (tmS j) (tmS i)) ∈ GV := by decide +kernel
theorem gv_x : ∀ i, i < 5 → Cond.exactly (tmX i) "java/lang/String" ∈ GV := by decide +kernel
theorem gv_cs : Cond.eq (.static "java/lang/String" "COMPACT_STRINGS" "Z") (.int 1) ∈ GV := by decide +kernel
theorem gv_si : Cond.isRef (.static "jdk/internal/util/Preconditions" "SIOOBE_FORMATTER" "Ljava/util/function/BiFunction;") ∈ GV := by decide +kernel
theorem gv_u : Cond.isRef (.static "java/lang/Throwable" "UNASSIGNED_STACK" "[Ljava/lang/StackTraceElement;") ∈ GV := by decide +kernel
theorem gv_s : Cond.isRef (.static "java/lang/Throwable" "SUPPRESSED_SENTINEL" "Ljava/util/List;") ∈ GV := by decide +kernel
theorem str_x {s : State} {args : Array Value} (hs : ∀ c ∈ GV, c.before args s = true) : ∃ adX : Nat → Nat, ∀ i, i < 5 → (tmX i).eval args s none [] s = some (.ref (adX i)) := by
  have h : ∀ i : Nat, ∃ a : Nat, i < 5 → (tmX i).eval args s none [] s = some (.ref a) := by
    intro i
    by_cases hi : i < 5
    · obtain ⟨a, c, cA, kA, q1, -⟩ := Cond.exactly_spec (args := args) (first := s) (o := none) (s := s) (idx := []) (t := tmX i) (cls := "java/lang/String") (hs _ (gv_x i hi))
      exact ⟨a, fun _ => q1⟩
    · exact ⟨0, fun z => absurd z hi⟩
  exact Classical.axiomOfChoice h
theorem vkS_of {N : Nat} {len : List Nat} {byt : List (List Int32)} {adK adV adK' adV' : Nat → Nat} {A : Nat → Prop} {U : State} {H : Heap} (h : vk_S N len byt adK adV A U H) (e1 : ∀ i, i < N → adK' i = adK i) (e2 : ∀ i, i < N → adV' i = adV i) : vk_S N len byt adK' adV' A U H :=
  ⟨fun i hi => by rw [e1 i hi, e2 i hi]; exact h.1 i hi, fun i j hi hj e => h.2 i j hi hj (by rw [← e1 i hi, ← e1 j hj]; exact e)⟩
theorem zq_r {C n d : String} {A : Nat → Prop} {U : State} {H : Heap} (h : va_Zq C n d A U H) : ∃ r : Option Nat, va_Z C n d (va_rf r) A U H := by
  rcases h with h | ⟨t, h⟩
  · exact ⟨none, h⟩
  · exact ⟨some t, h⟩
def gaF (b t : Nat) (adK adV adX : Nat → Nat) (q : Nat) : Nat := if q = 4000 then b else if q = 3000 then t else if 2001 ≤ q then adV (q - 2001) else if q < 1006 then adK (q - 1001) else adX (q - 1006)
theorem gaF_K {b t i : Nat} {adK adV adX : Nat → Nat} (h : i < 5) : gaF b t adK adV adX (1001 + i) = adK i := by
  unfold gaF
  rw [if_neg (by omega), if_neg (by omega), if_neg (by omega), if_pos (by omega), Nat.add_sub_cancel_left]
theorem gaF_V {b t i : Nat} {adK adV adX : Nat → Nat} (h : i < 5) : gaF b t adK adV adX (2001 + i) = adV i := by
  unfold gaF
  rw [if_neg (by omega), if_neg (by omega), if_pos (by omega), Nat.add_sub_cancel_left]
theorem gaF_X {b t i : Nat} {adK adV adX : Nat → Nat} (h : i < 5) : gaF b t adK adV adX (1001 + (5 + i)) = adX i := by
  unfold gaF
  rw [if_neg (by omega), if_neg (by omega), if_neg (by omega), if_neg (by omega), show 1001 + (5 + i) - 1006 = i by omega]
theorem start_R {s : State} {args : Array Value} {b t : Nat} {adK adV adX : Nat → Nat} (hts : ∀ w ∈ lw_tbl, w.before args s = true) (hev : ∀ i, i < 5 → (tmS i).eval args s none [] s = some (.ref (adK i))) (hX : ∀ i, i < 5 → (tmX i).eval args s none [] s = some (.ref (adX i))) : ∀ (i : Nat) (x : String × Nat × String), stT[i]? = some x → vk_R x.1 x.2.1 x.2.2 (gaF b t adK adV adX (1001 + i)) s := by
  intro i x hx
  match i with
  | 0 => cases hx; rw [gaF_K (i := 0) (by decide)]; exact vk_R.of (hts _ (tw2 (i := 179) rfl)) (hev 0 (by decide))
  | 1 => cases hx; rw [gaF_K (i := 1) (by decide)]; exact vk_R.of (hts _ (tw2 (i := 232) rfl)) (hev 1 (by decide))
  | 2 => cases hx; rw [gaF_K (i := 2) (by decide)]; exact vk_R.of (hts _ (tw2 (i := 233) rfl)) (hev 2 (by decide))
  | 3 => cases hx; rw [gaF_K (i := 3) (by decide)]; exact vk_R.of (hts _ (tw2 (i := 234) rfl)) (hev 3 (by decide))
  | 4 => cases hx; rw [gaF_K (i := 4) (by decide)]; exact vk_R.of (hts _ (tw2 (i := 239) rfl)) (hev 4 (by decide))
  | 5 => cases hx; rw [show 1001 + 5 = 1001 + (5 + 0) from rfl, gaF_X (i := 0) (by decide)]; exact vk_R.of (hts _ (tw4 (i := 20) rfl)) (hX 0 (by decide))
  | 6 => cases hx; rw [show 1001 + 6 = 1001 + (5 + 1) from rfl, gaF_X (i := 1) (by decide)]; exact vk_R.of (hts _ (tw4 (i := 63) rfl)) (hX 1 (by decide))
  | 7 => cases hx; rw [show 1001 + 7 = 1001 + (5 + 2) from rfl, gaF_X (i := 2) (by decide)]; exact vk_R.of (hts _ (tw4 (i := 74) rfl)) (hX 2 (by decide))
  | 8 => cases hx; rw [show 1001 + 8 = 1001 + (5 + 3) from rfl, gaF_X (i := 3) (by decide)]; exact vk_R.of (hts _ (tw4 (i := 82) rfl)) (hX 3 (by decide))
  | 9 => cases hx; rw [show 1001 + 9 = 1001 + (5 + 4) from rfl, gaF_X (i := 4) (by decide)]; exact vk_R.of (hts _ (tw4 (i := 83) rfl)) (hX 4 (by decide))
  | k + 10 => cases hx
theorem start_N {s : State} {args : Array Value} (hts : ∀ w ∈ lw_tbl, w.before args s = true) : ∀ t ∈ NWL, va_Nw (.methodLinkNest t.1 t.2.1 t.2.2.1 t.2.2.2) s := by
  intro t ht
  simp only [NWL, List.mem_cons, List.not_mem_nil, or_false] at ht
  rcases ht with rfl | rfl | rfl | rfl | rfl | rfl | rfl
  · exact va_Nw.of rfl (hts _ (tw1 (i := 33) rfl))
  · exact va_Nw.of rfl (hts _ (tw1 (i := 49) rfl))
  · exact va_Nw.of rfl (hts _ (tw1 (i := 55) rfl))
  · exact va_Nw.of rfl (hts _ (tw1 (i := 86) rfl))
  · exact va_Nw.of rfl (hts _ (tw1 (i := 183) rfl))
  · exact va_Nw.of rfl (hts _ (tw1 (i := 233) rfl))
  · exact va_Nw.of rfl (hts _ (tw1 (i := 239) rfl))
theorem start_2 {s : State} {args : Array Value} (hts : ∀ w ∈ lw_tbl, w.before args s = true) : SK2 s := by
  refine ⟨va_AO.of (hts _ (tw1 (i := 125) rfl)), fun y hy => ?_, fun C hC => ?_⟩
  · simp only [DCL, List.mem_cons, List.not_mem_nil, or_false] at hy
    rcases hy with rfl | rfl | rfl
    · exact va_Nw.of rfl (hts _ (tw3 (i := 224) rfl))
    · exact va_Nw.of rfl (hts _ (tw3 (i := 226) rfl))
    · exact va_Nw.of rfl (hts _ (tw3 (i := 228) rfl))
  · simp only [CSL, List.mem_cons, List.not_mem_nil, or_false] at hC
    rcases hC with rfl | rfl
    · exact va_Nw.of rfl (hts _ (tw3 (i := 222) rfl))
    · exact va_Nw.of rfl (hts _ (tw4 (i := 56) rfl))
theorem start_T {s : State} {args : Array Value} {A : Nat → Prop} (hts : ∀ w ∈ lw_tbl, w.before args s = true) (hs : ∀ c ∈ GV, c.before args s = true) (hA : ∀ a : Nat, a < s.heap.size → ¬ A a) : ∀ t ∈ thZ, (∃ r : Option Nat, va_Z t.1 t.2.1 t.2.2 (va_rf r) A s s.heap) ∧ LsZ t s := by
  intro t ht
  simp only [thZ, List.mem_cons, List.not_mem_nil, or_false] at ht
  rcases ht with rfl | rfl
  · exact ⟨zq_r (va_Zqof (hts _ (tw4 (i := 7) rfl)) (hts _ (tw1 (i := 18) rfl)) (hs _ gv_u) hA), hts _ (tw4 (i := 7) rfl)⟩
  · exact ⟨zq_r (va_Zqof (hts _ (tw4 (i := 9) rfl)) (hts _ (tw1 (i := 18) rfl)) (hs _ gv_s) hA), hts _ (tw4 (i := 9) rfl)⟩
theorem start_K {s : State} {b : Nat} (hts : ∀ w ∈ lw_tbl, w.before #[Value.ref b] s = true) (hgv : (Jvm.Cond.and given_1 narrow_1).before #[Value.ref b] s = true) (h0 : 0 < s.heap.size) : ∃ G : Gh, gB G = s.heap.size - 1 ∧ gA G 4000 = b ∧ KK G s := by
  have hw : ∀ w ∈ AW, w.before #[Value.ref b] s = true := fun w h => hts w (AW_tbl h)
  have hs : ∀ c ∈ GV, c.before #[Value.ref b] s = true := flat_of_before _ hgv
  have hA : ∀ a : Nat, a < s.heap.size → ¬ (fun q : Nat => s.heap.size - 1 < q) a := fun a h z => by
    have z : s.heap.size - 1 < a := z
    omega
  obtain ⟨D, hD⟩ := cls_all hw
  have h2 := start_2 hts
  obtain ⟨gc, hgc⟩ := arr_all hw (hts _ (tw5 (i := 19) rfl)) h2.1
  obtain ⟨adK, adV, hS, hev⟩ := vk_Sof (N := 5) (tm := tmS) (len := stN) (byt := stB) (A := fun q : Nat => s.heap.size - 1 < q) (by decide) (fun i hi => hs _ (gv_ex i hi)) (fun i hi => hs _ (gv_co i hi)) (fun i hi => hs _ (gv_ar i hi)) (fun i hi => hs _ (gv_le i hi)) (fun i hi j hj => hs _ (gv_el i hi j hj)) (fun i j hi hj hij => (gv_ne i hi j hj hij).imp (hs _) (hs _)) hA
  obtain ⟨adX, hX⟩ := str_x hs
  have hZ := va_Zof (A := fun q : Nat => s.heap.size - 1 < q) (hts _ (tw2 (i := 193) rfl)) (hts _ (tw1 (i := 11) rfl)) (va_eqi (hs _ gv_cs)) hA
  have hq := va_Zqof (A := fun q : Nat => s.heap.size - 1 < q) (hts _ (tw2 (i := 209) rfl)) (hts _ (tw1 (i := 13) rfl)) (hs _ gv_si) hA
  have hT := start_T (A := fun q : Nat => s.heap.size - 1 < q) hts hs hA
  obtain ⟨t, q, hq0, hq1⟩ : ∃ t q : Nat, (q = 0 ∨ q = 3000) ∧ va_Z "jdk/internal/util/Preconditions" "SIOOBE_FORMATTER" "Ljava/util/function/BiFunction;" (va_rf (if q = 0 then none else some t)) (fun q : Nat => s.heap.size - 1 < q) s s.heap := by
    rcases hq with h | ⟨t, h⟩
    · exact ⟨0, 0, Or.inl rfl, h⟩
    · exact ⟨t, 3000, Or.inr rfl, h⟩
  refine ⟨(D, gc, s.heap.size - 1, gaF b t adK adV adX), rfl, rfl, ⟨hD, hgc⟩, ⟨vkS_of hS (fun i hi => gaF_K hi) (fun i hi => gaF_V hi), start_R hts hev hX, hZ, ⟨q, hq0, ?_⟩, hT, start_N hts, h2⟩, ?_⟩
  · have e : cr (D, gc, s.heap.size - 1, gaF b t adK adV adX) q = if q = 0 then none else some t := by
      rcases hq0 with rfl | rfl <;> rfl
    rw [e]
    exact hq1
  · show s.heap.size - 1 < s.heap.size
    omega
