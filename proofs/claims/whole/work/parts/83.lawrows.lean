/-! rows of the law: its script, its helpers -/
section Script
variable {m : MR} {pc : Nat} {L : List (Nat × AV)} {S : List AV} {k : Nat × Nat} {w : Wo} {Q : Option AV → Wo → Prop} {xs : List Int}
theorem sx_lt {G : Gh} {s : State} (h : SX xs G s) : gA G 4000 < s.heap.size := by
  obtain ⟨⟨scr, h1, -⟩, -⟩ := h
  exact (Array.getElem?_eq_some_iff.mp h1).1
theorem wp_scr {b bF : Bool} (hs : scr m = some xs) (h : xs.length ≤ 2048 → (∀ j, inr32 (xs.getD j 0)) → WpG b bF m pc L S k w Q) : WpG b bF m pc L S k w Q := fun p l e s mm args below meth c G n0 Z H locs ls X Y => by
  obtain ⟨-, -, hN, hr⟩ := X.2.2.2.2.2.2.2.2.1 xs hs
  exact h hN hr p l e s mm args below meth c G n0 Z H locs ls X Y
theorem wp_slen {b bF : Bool} (hs : scr m = some xs) (hd : decode (cd m) pc = .ok (.arraylength, 1)) (h : WpG b bF m (pc + 1) L (vi (xs.length : Int) :: S) k w Q) : WpG b bF m pc L (vr 4000 :: S) k w Q := fun p l e s mm args below meth c G n0 Z H locs ls X Y => by
  have hx := X.2.2.2.2.2.2.2.2.1 xs hs
  have hlt := sx_lt hx
  obtain ⟨hX, hB, hN, hr⟩ := hx
  have hh := h p l e s mm args below meth c G n0 Z H locs ls X (Y.stk (okv_cons (show inr32 (xs.length : Int) from ⟨by omega, by omega⟩) (okv_tl Y.2.2.1)))
  rw [mp_sp (by decide)]
  refine va_slen X.1 X.2.1 hX hlt hB (Y.S0 X.2.2.2.2.2.1.2.2) hd ?_
  have e1 : (vi (xs.length : Int) :: S).map (cv G) = .int (Int32.ofInt (xs.length : Int)) :: S.map (cv G) := rfl
  rw [e1, Int32.ofInt_eq_ofNat] at hh
  exact hh
theorem wp_sld {b bF : Bool} {x : Int} (hs : scr m = some xs) (hx : 0 ≤ x ∧ x < (xs.length : Int)) (hd : decode (cd m) pc = .ok (.iaload, 1)) (h : WpG b bF m (pc + 1) L (vi (xs.getD x.toNat 0) :: S) k w Q) : WpG b bF m pc L (vi x :: vr 4000 :: S) k w Q := fun p l e s mm args below meth c G n0 Z H locs ls X Y => by
  have hq := X.2.2.2.2.2.2.2.2.1 xs hs
  have hlt := sx_lt hq
  obtain ⟨hX, hB, hN, hr⟩ := hq
  have hh := h p l e s mm args below meth c G n0 Z H locs ls X (Y.stk (okv_cons (hr x.toNat) (okv_tl (okv_tl Y.2.2.1))))
  rw [List.map_cons, mp_sp (by decide)]
  refine va_sld X.1 X.2.1 hX hlt hB (Y.S0 X.2.2.2.2.2.1.2.2) (i32_in hx.1 hx.2 (by omega)) hd ?_
  rw [i32_cl hx.1 (by omega)]
  exact hh
def SLH (m c : MR) (hh : HH) (idx n : Nat) : Prop := Cond.codeWith (yy c) (cd c) (nLo c) (rtt c) hh ∈ AW ∧ Cond.initialized (yy c).cls ∈ AW ∧ ((yy c).cls ≠ "java/lang/invoke/MethodHandle" ∧ (yy c).cls ≠ "java/lang/invoke/VarHandle") ∧ (parseMethodDescriptor (yy c).desc).map (fun d => d.parameters.length) = some n ∧ ((rmm c).frames + 1 ≤ (rmm m).frames ∧ 8 + (nLo c + 11) + (rmm c).locals ≤ (rmm m).locals) ∧ Cond.methodLink (yy m).cls idx (yy c) ∈ AW ∧ Cond.static (yy c) ∈ AW
theorem goodH {c : MR} {hh : HH} (h : Cond.codeWith (yy c) (cd c) (nLo c) (rtt c) hh ∈ AW) : GoodIn AW (wsH c hh) := fun x hx => by
  have hin : x ∈ AW := by
    rcases List.mem_cons.mp hx with rfl | h2
    · exact h
    · exact h2
  exact ⟨hin, AW_good x hin⟩
theorem wp_callSH {bF : Bool} {c : MR} {hh : HH} {idx : Nat} {A St : List AV} (hd : decode (cd m) pc = .ok (.invokestatic idx, 3)) (hsl : SLH m c hh idx A.length)
    (hst : St = A.reverse ++ S) (hW : (S.map catA).sum ≤ 8) (hk : k.1 + (rmm c).cells ≤ (rmm m).cells ∧ k.2 + (rmm c).slots ≤ (rmm m).slots)
    (hM : MetH c hh A w (fun r w' => WpG true bF m (pc + 3) L (r.toList ++ S) (k.1 + (rmm c).cells, k.2 + (rmm c).slots) w' Q)) : WpG true bF m pc L St k w Q := fun p l e s mm args below meth c0 G n0 Z H locs ls X Y => by
  subst hst
  obtain ⟨hcw, hini, hmh, hn, hrm, hl, hsta⟩ := hsl
  have hoA : ∀ v ∈ A, okv v := fun v hv => Y.2.2.1 v (List.mem_append_left _ (List.mem_reverse.mpr hv))
  have hoS : ∀ v ∈ S, okv v := fun v hv => Y.2.2.1 v (List.mem_append_right _ hv)
  have hM2 := hM l G H.size X.2.2.2.2.2.2.2.1 hoA
  have hts := X.2.2.2.2.1
  have hinit := hts _ hini
  have hK := va_backW (hh := hh) (R := rmm m) (p := p) (e := e) (below := below) (s := s) (sargs := args) (len := 3) (W := 8) (bytes := cd c) (maxL := nLo c) (ret := rtt c) hM2 blindC rfl rfl hrm.1 hrm.2 (pay_in hts (goodH hcw)) List.mem_cons_self (fun a' U hW => word_at hW (Or.inl (by first | rfl | simp [Cond.onTables, Cond.keeps, Cond.steady])) hinit)
  refine run_k (b := true) (a := (A.map (cv G)).toArray) (mc := (rmm c).cells) (ms := (rmm c).slots) ?_ X Y hoS (fun r w' h => h)
  intro T hT X0
  obtain ⟨v, vm₁, ⟨U', l2, c2, s2⟩, hW₁, X', ⟨g', mk, t, L0, e1, e2, hq, h1, hL, h2, h3⟩, st⟩ := callSW X0 X.1 (bytes := cd c) (maxL := nLo c) (ret := rtt c) (hh := hh) X.2.2.2.1 (hts _ hl) (hts _ hsta) hinit (hts _ hcw) hmh hK (g := F0 mm pc ls ((A.reverse ++ S).map (cv G))) rfl (by rw [X.2.2.1]; exact Y.1.1) (argsL := A.map (cv G)) (rest := S.map (cv G))
    (fun sig h => by
      have h9 := hn
      rw [h] at h9
      rw [List.length_map]
      exact (Option.some.inj h9).symm) (by
      show (A.reverse ++ S).map (cv G) = _
      rw [List.map_append, List.map_reverse]) (by
      show 0 + ((S.map (cv G)).map fun v => v.category).sum ≤ 8
      rw [catS_eq, Nat.zero_add]
      exact hW) (by rw [X.2.1]; exact hd)
    (fun vm₁ hW₁ => ⟨hk.1, hk.2, rfl, by show T.heap.size = _; rw [hT], X.2.2.2.2.2.1.moved (U := T.setVm vm₁) hW₁ hT Y.2.2.2.2.2.2.1, by show va_P _ _ _ T.heap; rw [hT]; exact Y.2.2.2.1, Y.2.2.2.2.1, Y.2.2.2.2.2.1, Y.2.2.2.2.2.2.2.2.2⟩)
  dsimp only [Pt.U, Pt.locs, Pt.cells, Pt.slots] at X' e1 e2 h1 h2 h3 st
  subst h1; subst h2; subst h3
  exact ⟨v, (T.setVm vm₁).calling g' mk (A.map (cv G)).toArray, t, U', L0, hT, X', hL, e1, e2, hq, st⟩
end Script
