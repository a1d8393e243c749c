/-! rows for what constructors do -/
section New
variable {bF : Bool} {m : MR} {pc : Nat} {L : List (Nat × AV)} {S : List AV} {k : Nat × Nat} {w : Wo} {Q : Option AV → Wo → Prop}
theorem wp_objinit {idx q : Nat} (hd : decode (cd m) pc = .ok (.invokespecial idx, 3)) (hl : Cond.methodLink (yy m).cls idx Lib.objectInit ∈ AW) (hi : Cond.instanceMethod Lib.objectInit ∈ AW) (hc : Cond.code Lib.objectInit ⟨#[0xb1]⟩ 1 none ∈ AW) (hq0 : 0 < q) (hq : q ≤ 1000) (hf : 1 ≤ (rmm m).frames) (hlo : (S.map catA).sum + 12 ≤ (rmm m).locals) {b : Bool} (h : WpG b bF m (pc + 3) L S k w Q) : WpG b bF m pc L (vr q :: S) k w Q := fun p l e s mm args below meth c G n0 Z H locs ls X Y => by
  rw [mp_ref hq0 hq]
  refine W.objInit X.1 X.2.1 X.2.2.2.1 (X.2.2.2.2.1 _ hl) (X.2.2.2.2.1 _ hi) (X.2.2.2.2.1 _ hc) rfl (by rw [X.2.2.1]; exact Y.1.1) rfl hd hf ?_ ?_
  · show 0 + ((S.map (cv G)).map fun v => v.category).sum + 12 ≤ _
    rw [catS_eq]
    omega
  · exact h p l e s mm args below meth c G n0 Z H locs ls X (Y.stk (okv_tl Y.2.2.1))
theorem wL_nw {G : Gh} {w : Wo} {sh : Nat × Nat} {e : va_E} (he : cE G (nw w sh) (wn w + 1) = e) : wL G w ++ [(gB G + (wn w + 1), e)] = wL G (nw w sh) := by
  apply List.ext_getElem?
  intro i
  by_cases hi : i < wn w
  · rw [List.getElem?_append_left (by rw [wL_len]; exact hi)]
    have h1 := wL_get (G := G) (w := w) (q := i + 1) (by omega) (by omega)
    have h2 := wL_get (G := G) (w := nw w sh) (q := i + 1) (by omega) (by show i + 1 ≤ w.1 + 1; unfold wn at hi; omega)
    rw [Nat.add_sub_cancel] at h1 h2
    rw [h1, h2]
    have hne : ¬ (i + 1 = w.1 + 1) := by unfold wn at hi; omega
    have ec : cE G (nw w sh) (i + 1) = cE G w (i + 1) := cE_congr (by show (if i + 1 = w.1 + 1 then sh else w.2.1 (i + 1)) = _; rw [if_neg hne]; rfl) (fun j => if_neg hne) (fun j => if_neg hne) (fun j => if_neg hne)
    rw [ec]
  · by_cases h2 : i = wn w
    · subst h2
      rw [List.getElem?_append_right (by rw [wL_len]; exact Nat.le_refl _), wL_len, Nat.sub_self]
      have h3 := wL_get (G := G) (w := nw w sh) (q := wn w + 1) (by omega) (Nat.le_refl _)
      rw [Nat.add_sub_cancel] at h3
      rw [h3, he]
      rfl
    · rw [List.getElem?_eq_none (by rw [List.length_append, wL_len]; simp; omega), List.getElem?_eq_none (by rw [wL_len]; show w.1 + 1 ≤ i; unfold wn at hi h2; omega)]
/-- the world behind a making -/
theorem Wy.mk {G : Gh} {n0 : Nat} {s : State} {n : Nat} {H H1 : Heap} {locs : List Loc} {ls : Array Slot} {sh : Nat × Nat} {S' : List AV} (Y : Wy false G n0 s n L S w H locs ls) (hw : wn w < 1000) (hP : va_P (gD G) clT (wL G (nw w sh)) H1) (hz : H1.size = H.size + 1) (ho : ∀ q, q < H.size → H1[q]? = H[q]?) (hs : ∀ v ∈ S', okv v) : Wy false G n0 s n L S' (nw w sh) H1 locs ls := by
  have hI : H.size = gB G + wn w + 1 := Y.2.2.2.2.2.1
  have hS := Y.2.2.2.2.2.2.1
  have h1 := Y.2.2.2.2.2.2.2.1
  have h2 := Y.2.2.2.2.2.2.2.2.1
  have e1 : wn (nw w sh) = wn w + 1 := rfl
  refine ⟨Y.1, Y.2.1, hs, hP, Y.2.2.2.2.1.nw sh, ?_, ⟨by have := hS.1; omega, fun q h3 h4 => (ho q (Nat.lt_of_lt_of_le h3 hS.1)).trans (hS.2.1 q h3 h4), hS.2.2⟩, by omega, ?_, by omega⟩
  · show H1.size = gB G + wn (nw w sh) + 1
    omega
  · have := hS.1
    omega
theorem cE_eq {G : Gh} {w : Wo} {sh : Nat × Nat} {e : va_E} (h : (wL G (nw w sh))[wn w + 1 - 1]? = some (gB G + (wn w + 1), e)) : cE G (nw w sh) (wn w + 1) = e := by
  have h2 := wL_get (G := G) (w := nw w sh) (q := wn w + 1) (Nat.succ_pos _) (Nat.le_refl _)
  have h3 := h2.symm.trans h
  injection h3 with h3
  injection h3 with _ h3
def NLP (m : MR) (idx ci : Nat) : Prop := ∃ C T, clT[ci]? = some (C, T, nf ci) ∧ Cond.classLink (yy m).cls idx C ∈ AW ∧ Cond.instantiable C (nf ci) ∈ AW ∧ Cond.initialized C ∈ AW
def DFP (ci : Nat) : Prop := ∀ j, j < nf ci → (fty ci j = 1 ∧ (tyF ci j = .int ∨ tyF ci j = .boolean)) ∨ (fty ci j = 2 ∧ tyF ci j = .long) ∨ (fty ci j = 5 ∧ ((∃ n, tyF ci j = .object n) ∨ ∃ t, tyF ci j = .array t))
theorem wp_new {idx ci : Nat} (hd : decode (cd m) pc = .ok (.new idx, 3)) (hc : ClP ci) (hl : NLP m idx ci) (hdf : DFP ci) (hw : wn w < 1000) (hk : k.1 + 1 ≤ (rmm m).cells ∧ k.2 + nf ci ≤ (rmm m).slots)
    (h : WpG false bF m (pc + 3) L (vr (wn w + 1) :: S) (k.1 + 1, k.2 + nf ci) (nw w (0, ci)) Q) : WpG false bF m pc L S k w Q := fun p l e s mm args below meth c G n0 Z H locs ls X Y => by
  obtain ⟨C, T, h1, h2, h3, h4⟩ := hl
  obtain ⟨C', T', g1, g2, g3, g4⟩ := hc
  cases Option.some.inj (h1.symm.trans g1)
  have hK := X.2.2.2.2.2.1.1
  have hKn := hK.1 ci _ h1
  have hI : H.size = gB G + wn w + 1 := Y.2.2.2.2.2.1
  have hP := Y.2.2.2.1
  refine W.newcK X.1 X.2.1 X.2.2.2.1 (X.2.2.2.2.1 _ h2) (X.2.2.2.2.1 _ h3) (X.2.2.2.2.1 _ h4) rfl hd hk.1 hk.2 hKn.2.1 rfl fun H1 kC hkC e1 z1 o1 => ?_
  have hk1 : ∀ (i : Nat) (x : Nat × va_E), (wL G w)[i]? = some x → H1[x.1]? = H[x.1]? := fun i x hx => o1 x.1 ((hP i x hx).lt)
  have hdef : ∀ j, j < nf ci → defaultValue (tyF ci j) = vp_V (fsL G (nw w (0, ci)) (wn w + 1) (fty ci) (nf ci)) j := by
    intro j hj
    have e2 : vp_V (fsL G (nw w (0, ci)) (wn w + 1) (fty ci) (nf ci)) j = fv G (nw w (0, ci)) (wn w + 1) j (fty ci j) := by
      unfold vp_V
      rw [List.getD_eq_getElem?_getD, fsL_get hj]
      rfl
    have ei : gI (nw w (0, ci)) (wn w + 1) j = 0 := if_pos rfl
    have ej : gJ (nw w (0, ci)) (wn w + 1) j = 0 := if_pos rfl
    have ep : gP (nw w (0, ci)) (wn w + 1) j = 0 := if_pos rfl
    rw [e2]
    rcases hdf j hj with ⟨a1, a2⟩ | ⟨a1, a2⟩ | ⟨a1, a2⟩
    · rw [a1]
      show _ = Value.int (Int32.ofInt (gI _ _ _))
      rw [ei]
      rcases a2 with a2 | a2 <;> (rw [a2]; rfl)
    · rw [a1, a2]
      show _ = Value.long (Int64.ofInt (gJ _ _ _))
      rw [ej]; rfl
    · rw [a1]
      show _ = va_rf (cr G (gP _ _ _))
      rw [ep]
      rcases a2 with ⟨n, a2⟩ | ⟨t, a2⟩ <;> (rw [a2]; rfl)
  have hE : cE G (nw w (0, ci)) (wn w + 1) = .inr (ci, fsL G (nw w (0, ci)) (wn w + 1) (fty ci) (nf ci)) := by
    have es : wsh (nw w (0, ci)) (wn w + 1) = (0, ci) := if_pos rfl
    exact cE_eq (cE_obj ⟨Nat.succ_pos _, Nat.le_refl _, es⟩)
  have hP2 : va_P (gD G) clT (wL G (nw w (0, ci))) H1 := by
    rw [← wL_nw hE]
    refine (hP.kept hk1).app (fun i x hx => ?_)
    have hz : i < 1 := (List.getElem?_eq_some_iff.mp hx).1
    rw [show i = 0 by omega] at hx
    cases hx
    refine ⟨_, h1, ?_⟩
    have hb := u_born (tyF ci) X.2.2.2.2.1 g2 hKn hkC e1 g3
    rw [hI, Nat.add_assoc] at hb
    exact hb.to hdef
  have hh := h p l e s mm args below meth c G n0 Z H1 locs ls X (Y.mk hw hP2 z1 o1 (okv_cons trivial Y.2.2.1))
  rw [mp_ref (by omega) (by omega)] at hh
  rw [hI, Nat.add_assoc]
  exact hh
/-- an array of ints (1), longs (2), bytes (3), booleans (4) -/
theorem wp_newarr {atype : ArrayType} {t N : Nat} {ty : FieldType} (hd : decode (cd m) pc = .ok (.newarray atype, 2)) (hty : newarray.typeOf atype = ty) (ht : (t = 1 ∧ ty = .int) ∨ (t = 2 ∧ ty = .long) ∨ (t = 3 ∧ ty = .byte) ∨ (t = 4 ∧ ty = .boolean)) (hac : Cond.arrayClass ty ∈ AW) (hN : N ≤ 65536) (hw : wn w < 1000) (hk : k.1 + 1 ≤ (rmm m).cells ∧ k.2 + N ≤ (rmm m).slots)
    (h : WpG false bF m (pc + 2) L (vr (wn w + 1) :: S) (k.1 + 1, k.2 + N) (nw w (t, N)) Q) : WpG false bF m pc L (vi (N : Int) :: S) k w Q := fun p l e s mm args below meth c G n0 Z H locs ls X Y => by
  have hK := X.2.2.2.2.2.1.1
  have hI : H.size = gB G + wn w + 1 := Y.2.2.2.2.2.1
  have hP := Y.2.2.2.1
  subst hty
  have hcl : (Int32.ofInt (N : Int)).toNatClampNeg = N := i32_cl (by omega) (by omega)
  have hb8 : componentBytes (newarray.typeOf atype) ≤ 8 := by
    rcases ht with ⟨-, q⟩ | ⟨-, q⟩ | ⟨-, q⟩ | ⟨-, q⟩ <;> rw [q] <;> decide
  have hneg : ¬ Int32.ofInt (N : Int) < 0 := by
    have := i32_lt (x := (N : Int)) (y := 0) ⟨by omega, by omega⟩ ⟨by omega, by omega⟩
    intro q
    have := this.mp q
    omega
  refine va_newaK X.1 X.2.1 (X.2.2.2.2.1 _ hac) rfl hd rfl hneg hcl (Nat.le_trans (Nat.mul_le_mul hN hb8) (by decide)) hk.1 hk.2 rfl fun H1 cA e1 z1 o1 hAr hNm => ?_
  have hk1 : ∀ (i : Nat) (x : Nat × va_E), (wL G w)[i]? = some x → H1[x.1]? = H[x.1]? := fun i x hx => o1 x.1 ((hP i x hx).lt)
  have es : wsh (nw w (t, N)) (wn w + 1) = (t, N) := if_pos rfl
  have ei : ∀ j, gI (nw w (t, N)) (wn w + 1) j = 0 := fun j => if_pos rfl
  have ej : ∀ j, gJ (nw w (t, N)) (wn w + 1) j = 0 := fun j => if_pos rfl
  have hcid : cA = gC G t := by
    rcases ht with ⟨rfl, q⟩ | ⟨rfl, q⟩ | ⟨rfl, q⟩ | ⟨rfl, q⟩
    · have h2 := (hK.2 0 _ rfl).2
      rw [q] at hNm
      exact Option.some.inj (hNm.symm.trans h2)
    · have h2 := (hK.2 1 _ rfl).2
      rw [q] at hNm
      exact Option.some.inj (hNm.symm.trans h2)
    · have h2 := (hK.2 2 _ rfl).2
      rw [q] at hNm
      exact Option.some.inj (hNm.symm.trans h2)
    · have h2 := (hK.2 3 _ rfl).2
      rw [q] at hNm
      exact Option.some.inj (hNm.symm.trans h2)
  have hat : va_at (gD G) clT (gB G + (wn w + 1), cE G (nw w (t, N)) (wn w + 1)) H1 := by
    have hsz : gB G + (wn w + 1) = H.size := by omega
    have e2 : (wsh (nw w (t, N)) (wn w + 1)).2 = N := by rw [es]
    have e3 : (wsh (nw w (t, N)) (wn w + 1)).1 = t := by rw [es]
    have hint : (t = 1 ∨ t = 3 ∨ t = 4) → defaultValue (newarray.typeOf atype) = Value.int 0 → va_at (gD G) clT (gB G + (wn w + 1), cE G (nw w (t, N)) (wn w + 1)) H1 := by
      intro hi hdv
      rw [cE_eq (cE_int (Nat.succ_pos _) (Nat.le_refl _) e3 hi)]
      show H1[gB G + (wn w + 1)]? = some (arrV (gC G t) (wsh (nw w (t, N)) (wn w + 1)).2 (fun j => .int (Int32.ofInt (gI (nw w (t, N)) (wn w + 1) j))))
      rw [hsz, e1, hcid, e2, hdv]
      congr 2
      funext j
      rw [ei]; rfl
    rcases ht with ⟨q0, q⟩ | ⟨q0, q⟩ | ⟨q0, q⟩ | ⟨q0, q⟩
    · exact hint (Or.inl q0) (by rw [q]; rfl)
    · subst q0
      rw [cE_eq (cE_long (Nat.succ_pos _) (Nat.le_refl _) e3)]
      show H1[gB G + (wn w + 1)]? = some (arrV (gC G 2) (wsh (nw w (2, N)) (wn w + 1)).2 (fun j => .long (Int64.ofInt (gJ (nw w (2, N)) (wn w + 1) j))))
      rw [hsz, e1, hcid, e2, q]
      congr 2
      funext j
      rw [ej]; rfl
    · exact hint (Or.inr (Or.inl q0)) (by rw [q]; rfl)
    · exact hint (Or.inr (Or.inr q0)) (by rw [q]; rfl)
  have hP2 : va_P (gD G) clT (wL G (nw w (t, N))) H1 := by
    rw [← wL_nw rfl]
    refine (hP.kept hk1).app (fun i x hx => ?_)
    have hz : i < 1 := (List.getElem?_eq_some_iff.mp hx).1
    rw [show i = 0 by omega] at hx
    cases hx
    exact hat
  have hh := h p l e s mm args below meth c G n0 Z H1 locs ls X (Y.mk hw hP2 z1 o1 (okv_cons trivial (okv_tl Y.2.2.1)))
  rw [mp_ref (by omega) (by omega)] at hh
  rw [hI, Nat.add_assoc]
  exact hh
theorem wp_anewLit {idx N : Nat} (hd : decode (cd m) pc = .ok (.anewarray idx, 3)) (hl : Cond.classLink (yy m).cls idx RLit ∈ AW) (hN : N ≤ 65536) (hw : wn w < 1000) (hk : k.1 + 1 ≤ (rmm m).cells ∧ k.2 + N ≤ (rmm m).slots)
    (h : WpG false bF m (pc + 3) L (vr (wn w + 1) :: S) (k.1 + 1, k.2 + N) (nw w (5, N)) Q) : WpG false bF m pc L (vi (N : Int) :: S) k w Q := fun p l e s mm args below meth c G n0 Z H locs ls X Y => by
  have hK := X.2.2.2.2.2.1.1
  have hI : H.size = gB G + wn w + 1 := Y.2.2.2.2.2.1
  have hP := Y.2.2.2.1
  have hcl : (Int32.ofInt (N : Int)).toNatClampNeg = N := i32_cl (by omega) (by omega)
  have hneg : ¬ Int32.ofInt (N : Int) < 0 := by
    have := i32_lt (x := (N : Int)) (y := 0) ⟨by omega, by omega⟩ ⟨by omega, by omega⟩
    intro q
    have := this.mp q
    omega
  refine W.anew X.1 X.2.1 X.2.2.2.1 (X.2.2.2.2.1 _ hl) (va_AO.use X.2.2.2.2.2.1.2.1.2.2.2.2.2.2.1) rfl hd rfl hneg (by rw [hcl]; omega) hk.1 (by rw [hcl]; exact hk.2) fun cA kA comp g1 g2 g3 g4 => ?_
  rw [hcl]
  have o1 : ∀ q, q < H.size → (H.push { cls := cA, slots := Array.replicate N .null, vm := .none })[q]? = H[q]? := fun q hq => by rw [Array.getElem?_push, if_neg (Nat.ne_of_lt hq)]
  have hk1 : ∀ (i : Nat) (x : Nat × va_E), (wL G w)[i]? = some x → (H.push { cls := cA, slots := Array.replicate N .null, vm := .none })[x.1]? = H[x.1]? := fun i x hx => o1 x.1 ((hP i x hx).lt)
  have es : wsh (nw w (5, N)) (wn w + 1) = (5, N) := if_pos rfl
  have ep : ∀ j, gP (nw w (5, N)) (wn w + 1) j = 0 := fun j => if_pos rfl
  have hcid : cA = gC G 5 := by
    obtain ⟨kA2, comp2, k1, k2, k3, k4⟩ := (hK.2 4 _ rfl).2
    exact Option.some.inj (g1.symm.trans k4)
  have hat : va_at (gD G) clT (gB G + (wn w + 1), cE G (nw w (5, N)) (wn w + 1)) (H.push { cls := cA, slots := Array.replicate N .null, vm := .none }) := by
    have hsz : gB G + (wn w + 1) = H.size := by omega
    have e2 : (wsh (nw w (5, N)) (wn w + 1)).2 = N := by rw [es]
    have e3 : (wsh (nw w (5, N)) (wn w + 1)).1 = 5 := by rw [es]
    rw [cE_eq (cE_refs (Nat.succ_pos _) (Nat.le_refl _) e3)]
    show (H.push { cls := cA, slots := Array.replicate N .null, vm := .none })[gB G + (wn w + 1)]? = some (arrV (gC G 5) (wsh (nw w (5, N)) (wn w + 1)).2 (fun j => va_rf (cr G (gP (nw w (5, N)) (wn w + 1) j))))
    rw [hsz, Array.getElem?_push_size, hcid, e2]
    unfold arrV
    congr 2
    apply Array.ext
    · simp
    · intro i h1 h2
      simp [ep, cr, va_rf]
  have hP2 : va_P (gD G) clT (wL G (nw w (5, N))) (H.push { cls := cA, slots := Array.replicate N .null, vm := .none }) := by
    rw [← wL_nw rfl]
    refine (hP.kept hk1).app (fun i x hx => ?_)
    have hz : i < 1 := (List.getElem?_eq_some_iff.mp hx).1
    rw [show i = 0 by omega] at hx
    cases hx
    exact hat
  have hh := h p l e s mm args below meth c G n0 Z _ locs ls X (Y.mk hw hP2 (by simp) o1 (okv_cons trivial (okv_tl Y.2.2.1)))
  rw [mp_ref (by omega) (by omega)] at hh
  rw [hI, Nat.add_assoc]
  exact hh
theorem ob_ast {p : Program} {l : Launch} {e : Env} {R : Room} {s : State} {mm : MethodId} {args : Array Value} {below : List Frame} {meth : Method} {c : Code} {H H0 : Heap} {locs : List Loc} {cells slots : Nat} {Z : State → Prop} {cc : ByteArray} {ls : Array Slot} {rest : List Value} {D : va_G} {cl : List vw_C} {A : Nat → Prop} {a : Nat} {tys : List (ClassId × FieldType)} {ws : va_W}
    (hexec : p.tables.exec = Jvm.exec) (hb : c.code = cc) (hK : va_K D cl tys s) (hP : va_P D cl ws H) (hD : va_D A ws) (hS : va_S A H0 H locs) (q0 t0 qk ci : Nat) {cA : ClassId} {r : vw_C} {n v : Nat} {vs : List Value} {f : Nat → Option Nat} (ha : ws[q0]? = some (a, .inl (cA, n, .inr (.inr (.inr (.inr f)))))) (ht : tys[t0]? = some (cA, .object r.1)) (hv : ws[qk]? = some (v, .inr (ci, vs))) (hc : cl[ci]? = some r) {i : Int32} (hin : vp_in i n) (hdg : decode cc pc = .ok (.aastore, 1))
    (kk : ∀ (H1 : Heap) (locs1 : List Loc), va_P D cl (ws.set q0 (a, .inl (cA, n, .inr (.inr (.inr (.inr (va_up f i.toNatClampNeg (some v)))))))) H1 → va_S A H0 H1 locs1 → H1.size = H.size → W p l e R s mm args below meth c H1 locs1 cells slots Z (F0 mm (pc + 1) ls rest)) : W p l e R s mm args below meth c H locs cells slots Z (F0 mm pc ls (.ref v :: .int i :: .ref a :: rest)) := by
  have hlt : i.toNatClampNeg < n := Nat.not_le.mp fun q => hin (Or.inr q)
  have h0 : ¬ i < 0 := fun q => hin (Or.inl q)
  obtain ⟨r', hr', cellV, g1, g2, g3, -⟩ := hP qk _ hv
  have hcls := (hK.1 ci r hc).2
  obtain ⟨kA, comp, k1, k2, k3, -⟩ := (hK.2 t0 _ ht).2
  have hcomp : comp = D.1 ci := Option.some.inj (k3.symm.trans hcls.1)
  subst hcomp
  obtain ⟨kC, hkC, -⟩ := hcls.2
  refine W.aast hexec hb (hP q0 _ ha) (fun q h => by cases h) (fun h => by cases h) k1 k2 rfl hkC ⟨h0, by show _ < (arrV _ _ _).slots.size; rw [arrV_size]; exact hlt⟩ g1 (fun q h => by rw [g3] at h; cases h) (by rw [g2]; exact hkC) (by rw [g2]; exact va_assign hcls) rfl rfl hdg fun H1 e z oq => ?_
  refine kk H1 _ (hP.set hD ha ?_ oq) (hS.put z oq (hD.2 q0 _ ha)) z
  show H1[a]? = some (vp_cell _ _)
  rw [e]
  rw [vp_cell_q, vp_cell_q, arrV_store]
  congr 2
  funext q
  by_cases hq : q = i.toNatClampNeg
  · subst hq
    simp [updV, va_up, va_rf]
  · simp [updV, va_up, hq]
theorem wp_aastLit {a v : Nat} {i : Int} (hd : decode (cd m) pc = .ok (.aastore, 1)) (ha : inA w a 5 i) (hv : oq w v (0, 3)) (h : WpG false bF m (pc + 1) L S k (uP w a i.toNat v) Q) : WpG false bF m pc L (vr v :: vi i :: vr a :: S) k w Q := fun p l e s mm args below meth c G n0 Z H locs ls X Y => by
  obtain ⟨h1, h2, h3⟩ := inA_a ha
  have hq1 : a ≤ 1000 := Nat.le_trans ha.2.1 Y.2.2.2.2.2.2.2.2.2
  have hv1 : v ≤ 1000 := Nat.le_trans hv.2.1 Y.2.2.2.2.2.2.2.2.2
  rw [mp_ref hv.1 hv1, List.map_cons, mp_ref ha.1 hq1]
  refine ob_ast X.1 X.2.1 X.2.2.2.2.2.1.1 Y.2.2.2.1 (wL_D Y.2.2.2.2.2.2.2.2.1) Y.2.2.2.2.2.2.1 (a - 1) 4 (v - 1) 3 (cE_refs ha.1 ha.2.1 ha.2.2.1) rfl (cE_obj hv) rfl h2 hd (fun H1 locs1 hP hS hz => ?_)
  have e9 : (wL G w).set (a - 1) (gB G + a, .inl (gC G 5, (wsh w a).2, .inr (.inr (.inr (.inr (va_up (fun j => cr G (gP w a j)) (Int32.ofInt i).toNatClampNeg (some (gB G + v)))))))) = wL G (uP w a i.toNat v) := by
    refine wL_set ha.1 rfl ?_ (fun o ho => ?_)
    · have h5 := wL_get (G := G) (w := uP w a i.toNat v) (q := a) ha.1 ha.2.1
      have h6 := cE_refs (G := G) (w := uP w a i.toNat v) (a := a) ha.1 ha.2.1 ha.2.2.1
      have h7 := h5.symm.trans h6
      injection h7 with h7
      injection h7 with _ h7
      rw [h7]
      show (Sum.inl (gC G 5, (wsh w a).2, Sum.inr (Sum.inr (Sum.inr (Sum.inr (fun j => cr G (gP (uP w a i.toNat v) a j)))))) : va_E) = Sum.inl (gC G 5, (wsh w a).2, Sum.inr (Sum.inr (Sum.inr (Sum.inr (va_up (fun j => cr G (gP w a j)) (Int32.ofInt i).toNatClampNeg (some (gB G + v)))))))
      have hfun : (fun j => cr G (gP (uP w a i.toNat v) a j)) = va_up (fun j => cr G (gP w a j)) (Int32.ofInt i).toNatClampNeg (some (gB G + v)) := by
        funext j
        rw [h3, gP_uP]
        unfold va_up
        by_cases hj : j = i.toNat
        · rw [if_pos ⟨rfl, hj⟩, if_pos hj, cr_pos hv.1 hv1]
        · rw [if_neg (fun q => hj q.2), if_neg hj]
      rw [hfun]
    · exact cE_congr rfl (fun j => rfl) (fun j => rfl) (fun j => by rw [gP_uP, if_neg (fun q => ho q.1)])
  rw [e9] at hP
  exact h p l e s mm args below meth c G n0 Z H1 locs1 ls X (Y.put hP hS Y.2.2.2.2.1 (Eq.trans hz Y.2.2.2.2.2.1) rfl (okv_tl (okv_tl (okv_tl Y.2.2.1))))
end New
