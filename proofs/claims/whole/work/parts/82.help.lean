/-! the law's helpers: they catch -/
section AtW
variable {m : MR} {Q : Option AV → Wo → Prop} {p : Program} {l : Launch} {e : Env} {s : State} {mm : MethodId} {args : Array Value} {below : List Frame} {meth : Method} {c : Code} {G : Gh} {n0 : Nat} {Z : State → Prop} {H : Heap} {locs : List Loc} {ls : Array Slot} {L : List (Nat × AV)} {S : List AV} {w : Wo} {pc : Nat} {k : Nat × Nat}
theorem w_aload_n (X : Wx m Q p l e s mm args below meth c true G n0 Z) (Y : Wy true G n0 s (nLo m) L S w H locs ls) {kk : Fin 4} (hd : decode (cd m) pc = .ok (.aload_n kk, 1)) {i : Nat} (hi : (kk : Nat) = i) (j : Nat) {q : Nat} (hj : L[j]? = some (i, vr q)) (h : Wy true G n0 s (nLo m) L (vr q :: S) w H locs ls → W p l e (rmm m) s mm args below meth c H locs k.1 k.2 Z (F0 mm (pc + 1) ls ((vr q :: S).map (cv G)))) : W p l e (rmm m) s mm args below meth c H locs k.1 k.2 Z (F0 mm pc ls (S.map (cv G))) := by
  have h1 := lvh_at Y.1 j hj
  have h2 := h (Y.stk (okv_cons trivial Y.2.2.1))
  have e1 : (vr q :: S).map (cv G) = va_rf (cr G q) :: S.map (cv G) := rfl
  rw [e1] at h2
  have h1 : ls[i]? = some (.val (va_rf (cr G q))) := h1
  cases hc : cr G q with
  | none => rw [hc] at h1 h2; exact lv_aload_nN X.1 X.2.1 hd hi h1 h2
  | some a => rw [hc] at h1 h2; exact lv_aload_n X.1 X.2.1 hd hi h1 h2
theorem w_aload (X : Wx m Q p l e s mm args below meth c true G n0 Z) (Y : Wy true G n0 s (nLo m) L S w H locs ls) {i : Nat} (hd : decode (cd m) pc = .ok (.aload i, 2)) (j : Nat) {q : Nat} (hj : L[j]? = some (i, vr q)) (h : Wy true G n0 s (nLo m) L (vr q :: S) w H locs ls → W p l e (rmm m) s mm args below meth c H locs k.1 k.2 Z (F0 mm (pc + 2) ls ((vr q :: S).map (cv G)))) : W p l e (rmm m) s mm args below meth c H locs k.1 k.2 Z (F0 mm pc ls (S.map (cv G))) := by
  have h1 := lvh_at Y.1 j hj
  have h2 := h (Y.stk (okv_cons trivial Y.2.2.1))
  have e1 : (vr q :: S).map (cv G) = va_rf (cr G q) :: S.map (cv G) := rfl
  rw [e1] at h2
  have h1 : ls[i]? = some (.val (va_rf (cr G q))) := h1
  cases hc : cr G q with
  | none => rw [hc] at h1 h2; exact lv_aloadN X.1 X.2.1 hd h1 h2
  | some a => rw [hc] at h1 h2; exact lv_aload X.1 X.2.1 hd h1 h2
theorem w_iconst (X : Wx m Q p l e s mm args below meth c true G n0 Z) (Y : Wy true G n0 s (nLo m) L S w H locs ls) {n : Int} (hd : decode (cd m) pc = .ok (.iconst n, 1)) (hr : inr32 n) (h : Wy true G n0 s (nLo m) L (vi n :: S) w H locs ls → W p l e (rmm m) s mm args below meth c H locs k.1 k.2 Z (F0 mm (pc + 1) ls ((vi n :: S).map (cv G)))) : W p l e (rmm m) s mm args below meth c H locs k.1 k.2 Z (F0 mm pc ls (S.map (cv G))) :=
  lv_iconst X.1 X.2.1 hd rfl (h (Y.stk (okv_cons hr Y.2.2.1)))
theorem w_iload_n (X : Wx m Q p l e s mm args below meth c true G n0 Z) (Y : Wy true G n0 s (nLo m) L S w H locs ls) {kk : Fin 4} (hd : decode (cd m) pc = .ok (.iload_n kk, 1)) {i : Nat} (hi : (kk : Nat) = i) (j : Nat) {x : Int} (hj : L[j]? = some (i, vi x)) (h : Wy true G n0 s (nLo m) L (vi x :: S) w H locs ls → W p l e (rmm m) s mm args below meth c H locs k.1 k.2 Z (F0 mm (pc + 1) ls ((vi x :: S).map (cv G)))) : W p l e (rmm m) s mm args below meth c H locs k.1 k.2 Z (F0 mm pc ls (S.map (cv G))) :=
  lv_iload_n X.1 X.2.1 hd hi (lvh_at Y.1 j hj) (h (Y.stk (okv_cons (Y.2.1 _ (List.mem_of_getElem? hj)) Y.2.2.1)))
theorem w_hend_n (X : Wx m Q p l e s mm args below meth c true G n0 Z) (Y : Wy true G n0 s (nLo m) L [] w H locs ls) {kk : Fin 4} (hd : decode (cd m) pc = .ok (.astore_n kk, 1)) {i : Nat} (hi : (kk : Nat) = i) (hn : i < nLo m) (h : WpG true true m (pc + 1) [] [] k w Q) (a : Addr) : W p l e (rmm m) s mm args below meth c H locs k.1 k.2 Z (F0 mm pc ls [.ref a]) :=
  lv_astore_n X.1 X.2.1 hd hi Y.1 hn rfl (fun ls' h' => h p l e s mm args below meth c G n0 Z H locs ls' X ⟨lv_sub h' [] rfl, fun q hq => (by cases hq), Y.2.2⟩)
theorem w_hend (X : Wx m Q p l e s mm args below meth c true G n0 Z) (Y : Wy true G n0 s (nLo m) L [] w H locs ls) {i : Nat} (hd : decode (cd m) pc = .ok (.astore i, 2)) (hn : i < nLo m) (h : WpG true true m (pc + 2) [] [] k w Q) (a : Addr) : W p l e (rmm m) s mm args below meth c H locs k.1 k.2 Z (F0 mm pc ls [.ref a]) :=
  lv_astore X.1 X.2.1 hd Y.1 hn rfl (fun ls' h' => h p l e s mm args below meth c G n0 Z H locs ls' X ⟨lv_sub h' [] rfl, fun q hq => (by cases hq), Y.2.2⟩)
end AtW
def hh_program : HH := [(0, 8, 11, 13)]
theorem wk_program : Cond.classLink "PlanDeskLaw" 13 "java/lang/IllegalArgumentException" ∈ AW := (aw2 (i := 145) rfl rfl)
theorem cv_L_program_7 : VLP m_L_program m_D_program 7 0 8 := ⟨⟨(aw2 (i := 149) rfl rfl), (aw1 (i := 1) rfl rfl), ⟨by decide, by decide⟩, by decide +kernel, by decide, by decide⟩, (aw2 (i := 146) rfl rfl), (aw2 (i := 147) rfl rfl), (aw2 (i := 148) rfl rfl), TC8, rfl⟩
def hh_rule : HH := [(0, 10, 13, 19)]
theorem wk_rule : Cond.classLink "PlanDeskLaw" 19 "java/util/NoSuchElementException" ∈ AW := (aw4 (i := 49) rfl rfl)
theorem cv_L_rule_15 : VLP m_L_rule m_D_rule 15 2 8 := ⟨⟨(aw4 (i := 53) rfl rfl), (aw1 (i := 1) rfl rfl), ⟨by decide, by decide⟩, by decide +kernel, by decide, by decide⟩, (aw4 (i := 50) rfl rfl), (aw4 (i := 51) rfl rfl), (aw4 (i := 52) rfl rfl), TC8, rfl⟩
def hh_literal : HH := [(0, 12, 15, 19)]
theorem wk_literal : Cond.classLink "PlanDeskLaw" 19 "java/util/NoSuchElementException" ∈ AW := (aw4 (i := 49) rfl rfl)
theorem cv_L_literal_21 : VLP m_L_literal m_D_literal 21 3 8 := ⟨⟨(aw4 (i := 81) rfl rfl), (aw1 (i := 1) rfl rfl), ⟨by decide, by decide⟩, by decide +kernel, by decide, by decide⟩, (aw4 (i := 78) rfl rfl), (aw4 (i := 79) rfl rfl), (aw4 (i := 80) rfl rfl), TC8, rfl⟩
theorem s_L_program {s : PSt} {f : Int × Int} {c : Nat → Int} {n : Nat} {w : Wo} {K : Int → Wo → Prop} (hC : CI s f c n w) (h0 : ∀ f' w', rdP (Tc c n) = .inl f' → CI s f' c 0 w' → EqM w w' → K 1 w') (h1 : ∀ s' w' w2, rdP (Tc c n) = .inr s' → CI s' (0, 0) c 0 w' → PW s' → EqM w w' → w2 = uJ w' 117 0 (s'.2.1.length : Int) → K 0 w2) : MetH m_L_program hh_program [vr 1, vr 117] w (fun r w' => ∃ y, r = some (vi y) ∧ K y w') := by
  refine met_ofH (by decide) rfl (Nat.le_of_ble_eq_true rfl) (fun p l e st mm args below meth cc G n0 Z ls X hx Y => ?_)
  cases er : rdP (Tc c n) with
  | inr s' =>
    have key : WpG true true m_L_program 0 [(0, vr 1), (1, vr 117)] [] (0, 0) w (fun r w' => ∃ y, r = some (vi y) ∧ K y w') := by
      refine wp_ly (fun hly => ?_)
      refine wp_aload_n d_L_program_0 (i := 1) rfl 1 rfl ?_
      refine wp_iconst d_L_program_1 (by decide) ?_
      refine wp_aload_n d_L_program_2 (i := 0) rfl 0 rfl ?_
      refine wp_callV (A := []) (S := [vi 0, vr 117]) d_L_program_3 cv_L_program_7 (ly_o hly (by decide)) rfl (Nat.le_of_ble_eq_true rfl) (by decide) (MetS.mono (s_D_programR (K := fun z w1 => ∀ w2, w2 = uJ w1 117 0 z → K 0 w2) hC er (fun w' C W E w2 e2 => h1 s' w' w2 er C W E e2)) (fun r w1 hh => ?_))
      obtain ⟨z, er2, h⟩ := hh
      subst er2
      refine wp_ly (fun hly => ?_)
      refine wp_i2l d_L_program_6 ?_
      refine wp_lastore d_L_program_7 (ly_a (n := 1) (N := 1) hly (by decide) (by decide)) (fun w2 e2 => ?_)
      refine wp_goto (tgt := 14) d_L_program_8 (by decide) ?_
      refine wp_iconst d_L_program_14 (by decide) ?_
      exact wp_iret d_L_program_15 rfl (by decide) (kI (h w2 e2))
    exact key p l e st mm args below meth cc G n0 Z _ [] ls X Y
  | inl f' =>
    refine w_aload_n (k := (0, 0)) (S := []) X Y d_L_program_0 (i := 1) rfl 1 rfl (fun Y => ?_)
    refine w_iconst (k := (0, 0)) X Y d_L_program_1 (by decide) (fun Y => ?_)
    refine w_aload_n (k := (0, 0)) X Y d_L_program_2 (i := 0) rfl 0 rfl (fun Y => ?_)
    refine w_catch (k := (0, 0)) (A := []) (S := [vi 0, vr 117]) X Y d_L_program_3 cv_L_program_7 (ly_o Y.2.2.2.2.2.1 (by decide)) rfl (Nat.le_of_ble_eq_true rfl) (by decide) (s_D_programT (Qw := fun w1 => K 1 w1) hC er (fun w' C E => h0 f' w' er C E)) hx (by decide) (by decide) wk_program (fun H' locs' a w' hw Y' => ?_)
    exact w_hend_n (k := (1, 6)) X Y' d_L_program_11 (i := 2) rfl (by decide) (wp_iconst d_L_program_12 (by decide) (wp_iret d_L_program_13 rfl (by decide) (kI hw))) a
theorem s_L_rule {s : PSt} {f : Int × Int} {c : Nat → Int} {n : Nat} {r x : Int} {w : Wo} {K : Int → Wo → Prop} (hC : CI s f c n w) (hW : PW s) (h0 : ruA s r x = none → K 1 w) (h1 : ∀ v w2, ruA s r x = some v → w2 = uJ w 117 0 v → K 0 w2) : MetH m_L_rule hh_rule [vr 1, vi r, vi x, vr 117] w (fun r w' => ∃ y, r = some (vi y) ∧ K y w') := by
  refine met_ofH (by decide) rfl (Nat.le_of_ble_eq_true rfl) (fun p l e st mm args below meth cc G n0 Z ls X hx Y => ?_)
  cases er : ruA s r x with
  | some v =>
    have key : WpG true true m_L_rule 0 [(0, vr 1), (1, vi r), (2, vi x), (3, vr 117)] [] (0, 0) w (fun r w' => ∃ y, r = some (vi y) ∧ K y w') := by
      refine wp_ly (fun hly => ?_)
      refine wp_aload_n d_L_rule_0 (i := 3) rfl 3 rfl ?_
      refine wp_iconst d_L_rule_1 (by decide) ?_
      refine wp_aload_n d_L_rule_2 (i := 0) rfl 0 rfl ?_
      refine wp_iload_n d_L_rule_3 (i := 1) rfl 1 rfl ?_
      refine wp_iload_n d_L_rule_4 (i := 2) rfl 2 rfl ?_
      refine wp_callV (A := [vi r, vi x]) (S := [vi 0, vr 117]) d_L_rule_5 cv_L_rule_15 (ly_o hly (by decide)) rfl (Nat.le_of_ble_eq_true rfl) (by decide) (MetS.mono (s_D_ruleR (K := fun z w1 => ∀ w2, w2 = uJ w1 117 0 z → K 0 w2) hC hW er (fun w2 e2 => h1 v w2 er e2)) (fun r w1 hh => ?_))
      obtain ⟨z, er2, h⟩ := hh
      subst er2
      refine wp_ly (fun hly => ?_)
      refine wp_i2l d_L_rule_8 ?_
      refine wp_lastore d_L_rule_9 (ly_a (n := 1) (N := 1) hly (by decide) (by decide)) (fun w2 e2 => ?_)
      refine wp_goto (tgt := 17) d_L_rule_10 (by decide) ?_
      refine wp_iconst d_L_rule_17 (by decide) ?_
      exact wp_iret d_L_rule_18 rfl (by decide) (kI (h w2 e2))
    exact key p l e st mm args below meth cc G n0 Z _ [] ls X Y
  | none =>
    refine w_aload_n (k := (0, 0)) (S := []) X Y d_L_rule_0 (i := 3) rfl 3 rfl (fun Y => ?_)
    refine w_iconst (k := (0, 0)) X Y d_L_rule_1 (by decide) (fun Y => ?_)
    refine w_aload_n (k := (0, 0)) X Y d_L_rule_2 (i := 0) rfl 0 rfl (fun Y => ?_)
    refine w_iload_n (k := (0, 0)) X Y d_L_rule_3 (i := 1) rfl 1 rfl (fun Y => ?_)
    refine w_iload_n (k := (0, 0)) X Y d_L_rule_4 (i := 2) rfl 2 rfl (fun Y => ?_)
    refine w_catch (k := (0, 0)) (A := [vi r, vi x]) (S := [vi 0, vr 117]) X Y d_L_rule_5 cv_L_rule_15 (ly_o Y.2.2.2.2.2.1 (by decide)) rfl (Nat.le_of_ble_eq_true rfl) (by decide) (s_D_ruleT (Qw := fun w1 => K 1 w1) hC hW er (h0 er)) hx (by decide) (by decide) wk_rule (fun H' locs' a w' hw Y' => ?_)
    exact w_hend (k := (1, 6)) X Y' d_L_rule_13 (by decide) (wp_iconst d_L_rule_15 (by decide) (wp_iret d_L_rule_16 rfl (by decide) (kI hw))) a
theorem s_L_literal {s : PSt} {f : Int × Int} {c : Nat → Int} {n : Nat} {r i x : Int} {w : Wo} {K : Int → Wo → Prop} (hC : CI s f c n w) (hW : PW s) (h0 : liA s r i x = none → K 1 w) (h1 : ∀ v w2, liA s r i x = some v → w2 = uJ w 117 0 v → K 0 w2) : MetH m_L_literal hh_literal [vr 1, vi r, vi i, vi x, vr 117] w (fun r w' => ∃ y, r = some (vi y) ∧ K y w') := by
  refine met_ofH (by decide) rfl (Nat.le_of_ble_eq_true rfl) (fun p l e st mm args below meth cc G n0 Z ls X hx Y => ?_)
  cases er : liA s r i x with
  | some v =>
    have key : WpG true true m_L_literal 0 [(0, vr 1), (1, vi r), (2, vi i), (3, vi x), (4, vr 117)] [] (0, 0) w (fun r w' => ∃ y, r = some (vi y) ∧ K y w') := by
      refine wp_ly (fun hly => ?_)
      refine wp_aload d_L_literal_0 4 rfl ?_
      refine wp_iconst d_L_literal_2 (by decide) ?_
      refine wp_aload_n d_L_literal_3 (i := 0) rfl 0 rfl ?_
      refine wp_iload_n d_L_literal_4 (i := 1) rfl 1 rfl ?_
      refine wp_iload_n d_L_literal_5 (i := 2) rfl 2 rfl ?_
      refine wp_iload_n d_L_literal_6 (i := 3) rfl 3 rfl ?_
      refine wp_callV (A := [vi r, vi i, vi x]) (S := [vi 0, vr 117]) d_L_literal_7 cv_L_literal_21 (ly_o hly (by decide)) rfl (Nat.le_of_ble_eq_true rfl) (by decide) (MetS.mono (s_D_literalR (K := fun z w1 => ∀ w2, w2 = uJ w1 117 0 z → K 0 w2) hC hW er (fun w2 e2 => h1 v w2 er e2)) (fun r w1 hh => ?_))
      obtain ⟨z, er2, h⟩ := hh
      subst er2
      refine wp_ly (fun hly => ?_)
      refine wp_i2l d_L_literal_10 ?_
      refine wp_lastore d_L_literal_11 (ly_a (n := 1) (N := 1) hly (by decide) (by decide)) (fun w2 e2 => ?_)
      refine wp_goto (tgt := 19) d_L_literal_12 (by decide) ?_
      refine wp_iconst d_L_literal_19 (by decide) ?_
      exact wp_iret d_L_literal_20 rfl (by decide) (kI (h w2 e2))
    exact key p l e st mm args below meth cc G n0 Z _ [] ls X Y
  | none =>
    refine w_aload (k := (0, 0)) (S := []) X Y d_L_literal_0 4 rfl (fun Y => ?_)
    refine w_iconst (k := (0, 0)) X Y d_L_literal_2 (by decide) (fun Y => ?_)
    refine w_aload_n (k := (0, 0)) X Y d_L_literal_3 (i := 0) rfl 0 rfl (fun Y => ?_)
    refine w_iload_n (k := (0, 0)) X Y d_L_literal_4 (i := 1) rfl 1 rfl (fun Y => ?_)
    refine w_iload_n (k := (0, 0)) X Y d_L_literal_5 (i := 2) rfl 2 rfl (fun Y => ?_)
    refine w_iload_n (k := (0, 0)) X Y d_L_literal_6 (i := 3) rfl 3 rfl (fun Y => ?_)
    refine w_catch (k := (0, 0)) (A := [vi r, vi i, vi x]) (S := [vi 0, vr 117]) X Y d_L_literal_7 cv_L_literal_21 (ly_o Y.2.2.2.2.2.1 (by decide)) rfl (Nat.le_of_ble_eq_true rfl) (by decide) (s_D_literalT (Qw := fun w1 => K 1 w1) hC hW er (h0 er)) hx (by decide) (by decide) wk_literal (fun H' locs' a w' hw Y' => ?_)
    exact w_hend (k := (1, 6)) X Y' d_L_literal_15 (by decide) (wp_iconst d_L_literal_17 (by decide) (wp_iret d_L_literal_18 rfl (by decide) (kI hw))) a
