/-! the class reads all clauses -/
def pProg (T : Tks) : Nat → PSt → Nat → Int ⊕ PSt
  | 0, s, _ => .inr s
  | k + 1, s, a => if tK T a = 0 then .inr s else match pClause T s a with
    | .inl q => .inl q
    | .inr (s', a') => pProg T k s' a'
theorem pProg_e {T : Tks} {k a : Nat} {s : PSt} (h : tK T a = 0) : pProg T (k + 1) s a = .inr s := if_pos h
theorem pProg_f {T : Tks} {k a : Nat} {s : PSt} {q : Int} (h : ¬ tK T a = 0) (hp : pClause T s a = .inl q) : pProg T (k + 1) s a = .inl q := by
  rw [pProg, if_neg h, hp]
theorem pProg_s {T : Tks} {k a a' : Nat} {s s' : PSt} (h : ¬ tK T a = 0) (hp : pClause T s a = .inr (s', a')) : pProg T (k + 1) s a = pProg T k s' a' := by
  rw [pProg, if_neg h, hp]
def PC (T : Tks) (nb b : Nat) (s : PSt) (a : Nat) (w : Wo) : Prop := CS0 T nb a s.2.2.2 w ∧ gP w 4 3 = b ∧ RlC b s.2.1 w ∧ (∃ fc : Nat → Int, BkC b s.1 (Nf s.2.1 fc) w ∧ (∀ p, s.1.length ≤ p → fc p = 0) ∧ (∀ p, 0 ≤ fc p ∧ fc p ≤ a) ∧ (s.2.2.2.1 = 0 → ∀ p, fc p = (fcR s.2.2.1 p : Nat))) ∧ FcC s.2.2.1 s.2.2.2 a w
abbrev FG (b : Nat) (w w' : Wo) : Prop := Frm [4, 9, 10, 12, 15, 16, 17, 18, 19, 21, 22, 24, 25, 27, 28, 30, 31, 33, 34, 36, 37, 38, b, b + 1, b + 2, b + 3, b + 4, b + 5, b + 6, b + 7, b + 8, b + 9, b + 10, b + 11, b + 12, b + 14, b + 15, b + 16, b + 17, b + 18] [4, 11, 14, 20, 23, 26, 29, 32, 35, 39, b + 13] w w'
theorem FG.fa {b : Nat} {w w' : Wo} (h : FA b 10 w w') : FG b w w' := h.sub (by simp) (by simp)
theorem FG.fd {b : Nat} {w w' : Wo} (h : FD b w w') : FG b w w' := h.sub (by simp) (by simp)
theorem FG.fe {b : Nat} {w w' : Wo} (h : FE b w w') : FG b w w' := h.sub (by simp) (by simp)
theorem FG.a {b : Nat} {w w' : Wo} (h : Frm [4] [4] w w') : FG b w w' := h.sub (by simp) (by simp)
theorem FG.g {b : Nat} {w w' : Wo} (h : Frm [9, 10] [] w w') : FG b w w' := h.sub (by simp) (by simp)
theorem FG.ff {b : Nat} {w w' : Wo} (h : Frm [4, 37, 38, b + 16] [4, 39] w w') : FG b w w' := h.sub (by simp) (by simp)
theorem WfS.ro {s : PSt} {a : Nat} (h : WfS s a) : rsOK s.2.1 := fun r hr => by
  obtain ⟨-, -, -, -, -, -, -, -, -, r10, r11, -⟩ := h.2.2.2.1 r hr
  exact ⟨fun L hL => (r11 L hL).1, r10⟩
theorem WfS.hd {s : PSt} {a p : Nat} (h : WfS s a) (hp : s.1.length ≤ p) : ∀ r ∈ s.2.1, r.1 < (p : Int) := fun r hr => by
  have := (h.2.2.2.1 r hr).2.1
  omega
theorem szAt_le {P : PL} (h : POk P) (i : Nat) : szAt P i ≤ 4 := by
  unfold szAt
  rw [List.getD_eq_getElem?_getD]
  cases e : P[i]? with
  | none => show (0 : Int) ≤ 4; decide
  | some x => exact (h.2 x (List.mem_of_getElem? e)).2.2.2
theorem opn_rng {T : Tks} {V : PL} {tot : Int × Int} {a : Nat} {q : Int} (hV : VOk T V a) (ht : ttOK T tot a) (h : opn V tot = some q) : 0 ≤ q := by
  cases V with
  | nil => cases h
  | cons y V =>
    have hy := (hV.2.1 y (List.mem_cons_self ..)).1
    have := ht.2.2.1
    injection h with h
    subst h
    split
    · exact hy
    · split
      · exact hy
      · exact this
theorem l_read {T : Tks} {nb b : Nat} {K : Int → Wo → Prop} (hT : TOk T nb) (hb : isBk b) : ∀ (k : Nat) (s : PSt) (a : Nat) (w : Wo) (x : Nat), nb - a < k → x ≤ a → WfS s a → PC T nb b s a w →
    (∀ q w', pProg T k s a = .inl q → FP q w' → FG b w w' → K 0 w') →
    (∀ s' a' w', pProg T k s a = .inr s' → WfS s' a' → PC T nb b s' a' w' → FG b w w' → (s'.2.2.2.1 ≠ 0 → K 0 w') ∧ (s'.2.2.2.1 = 0 → MetV m_Rd_finish [vr 4] w' (fun w1 => (¬ gI w1 4 4 = 0 → K 0 w1) ∧ (gI w1 4 4 = 0 → K 1 w1)))) →
    Wp m_Rd_read 45 [(0, vr 4), (3, vi (x : Int))] [] (0, 0) w (fun r w' => ∃ y, r = some (vi y) ∧ K y w') := by
  have h600 := hT.1
  have bc := bk_c hb
  intro k
  induction k with
  | zero => intro s a w x hk; omega
  | succ k ih =>
    intro s a w x hk hx hW hP hE hD
    obtain ⟨hs, hbt, hR, ⟨fc, hB, hfz, hfr, hfe⟩, hFc⟩ := id hP
    obtain ⟨⟨t1, t2, t3⟩, ha, ⟨a1, a2, a3, a4⟩, f1, f2⟩ := id hs
    refine t_Rd_read_45 ⟨fun z => by omega, fun _ => ?_⟩
    rw [a2, a3]
    refine ⟨fun z => ?_, fun z => ?_⟩
    · obtain ⟨d1, d2⟩ := hD s a w (pProg_e z) hW hP Frm.rf
      rw [f1]
      refine ⟨fun q => ⟨fun _ => kI (d1 q), fun q2 => absurd q2 q⟩, fun q => ?_⟩
      exact MetS.mono (d2 q) (fun r w1 hw => ⟨hw.1, fun q1 => kI (hw.2.1 q1), fun q1 => kI (hw.2.2 q1)⟩)
    · refine s_Cl_begin hs (fun w3 c3 L3 F3 => ?_)
      have hz : ∀ p, s.1.length ≤ p → Nf s.2.1 fc p = (0, 0, 0) := fun p hp => by
        obtain ⟨q1, q2⟩ := rcR_0 (hW.hd hp)
        show (((rcR s.2.1 p : Nat) : Int), fc p, ((hgR s.2.1 p : Nat) : Int)) = _
        rw [q1, q2, hfz p hp]; rfl
      have hsz : ∀ x ∈ s.1, 1 ≤ x.2 := fun x hx => (hW.1.2 x hx).2.2.1
      refine s_Rd_readAtom (hd := true) (any := false) hT c3 (Or.inl rfl) L3 hb (by rw [F3.2.2]; exact hbt) (hB.frm F3 (by simp <;> omega) (by simp)) hz hsz rfl ⟨fun q => (by cases q), fun q => absurd (Or.inl rfl) q⟩ (fun ar V' tot' a' hp hne hok _ w4 c4 L4 B4 F4 => ⟨fun q => absurd q (by decide), fun _ => ?_⟩) (fun q hp w4 p4 F4 => ⟨fun _ => kI ?_, fun q => absurd rfl q⟩)
      · obtain ⟨y1, y2, y3, y4, y5, y6, y7, y8, y9, y10, y11, y12, y13⟩ := pAtom_ok hT hW.1 VOk_nil ttOK_0 ha hp
        have FG4 : FG b w w4 := (FG.g F3).tr (FG.fa F4)
        have hz4 : ∀ p, (rgP s.1 (tV T a) ar.length).length ≤ p → Nf s.2.1 fc p = (0, 0, 0) := fun p hp => hz p (Nat.le_trans rg_len hp)
        have hsz4 : ∀ x ∈ rgP s.1 (tV T a) ar.length, 1 ≤ x.2 := fun x hx => (y11.2 x hx).2.2.1
        have R4 : RlC b s.2.1 w4 := (hR.frm F3 (fun q h1 h2 => by simp <;> omega)).frm F4 (fun q h1 h2 => by simp <;> omega)
        have Fc4 : FcC s.2.2.1 s.2.2.2 a w4 := (hFc.frm F3 (by simp) (by simp)).frm F4 (by simp <;> omega) (by simp <;> omega)
        have hbt4 : gP w4 4 3 = b := by rw [F4.2.2, F3.2.2]; exact hbt
        have hpc : ∀ r, pClause T s a = r → (if tK T a' = 8 then (match opn V' tot' with
      | some q => .inl q
      | none => .inr ((rgP s.1 (tV T a) ar.length, s.2.1, adF s.2.2.1 (((fi s.1 (tV T a) : Nat) : Int), ar), ntS s.2.2.2 s.1 (tV T a) ar.length (tP T a)), a' + 1))
    else if tK T a' = 11 then (if s.2.1.length < 30 then pRule T s a ar V' tot' a' else .inl (tP T a))
    else .inl (tP T a') : Int ⊕ (PSt × Nat)) = r := by
          intro r e
          rw [pClause, hp] at e
          exact e
        have hpc := hpc _ rfl
        refine s_Rd_readBody hT hb c4 hbt4 B4 hz4 hsz4 R4.1 (fun h8 => ⟨fun _ => ?_, fun q => absurd q (by decide)⟩) (fun h11 h30 s' a2 w6 hpb h8 hlo hl6 hl1 c6 B6 L6 F6 => ⟨fun _ => ?_, fun q => absurd q (by decide)⟩) (fun h11 h30 q w6 hpb p6 F6 => ⟨fun q => absurd rfl q, fun _ => kI (hE q w6 (pProg_f z ?_) p6 (FG4.tr (FG.fd F6)))⟩) (fun h11 h30 w6 p6 F6 => ⟨fun q => absurd rfl q, fun _ => kI (hE _ w6 (pProg_f z ?_) p6 (FG4.tr (FG.a F6)))⟩) (fun h8 h11 w6 p6 F6 => ⟨fun q => absurd rfl q, fun _ => kI (hE _ w6 (pProg_f z ?_) p6 (FG4.tr (FG.a F6)))⟩)
        · rw [if_pos h8] at hpc
          have hlt := hT.lt y6 (by omega) (by omega)
          have c0 : gI w4 9 2 = 0 := c4.2.2.2.2.2.2.1
          refine ⟨fun _ => ?_, fun q => by omega⟩
          have hhd : fi s.1 (tV T a) < (rgP s.1 (tV T a) ar.length).length := y12
          have fr := hfr (fi s.1 (tV T a))
          have nf := ntS_ok (x := tV T a) (P := s.1) (s := (ar.length : Int)) (p := tP T a) hW.2.1 (hT.pl ha)
          have Fc4' : FcC s.2.2.1 (ntS s.2.2.2 s.1 (tV T a) ar.length (tP T a)) a w4 := by
            obtain ⟨n, n1, n2, n3⟩ := Fc4
            exact ⟨n, n1, n2, fun q => n3 (nf.2 q).1⟩
          refine s_Rd_endFact (A := a) hT hb hbt4 B4 c4 L4 hhd ⟨fr.1, by omega⟩ Fc4' (by omega) (fun q x hx => ?_) h8 (fun q e => by have := opn_rng y1 y2 e; omega) (fun q w8 e p8 F8 => ⟨fun q => absurd rfl q, fun _ => kI (hE q w8 (pProg_f z ?_) p8 (FG4.tr (FG.a F8)))⟩) (fun e w8 fc' c8 B8 g1 g2 g3 Fc8 F8 => ⟨fun _ => ?_, fun q => absurd q (by decide)⟩)
          · obtain ⟨q1, q2⟩ := nf.2 q
            obtain ⟨u1, u2, u3, -⟩ := hW.2.2.2.2.1 q1 x hx
            have u4 := szAt_le hW.1 x.1.toNat
            refine ⟨by omega, fun e => ?_⟩
            rw [e, show (((fi s.1 (tV T a) : Nat) : Int)).toNat = fi s.1 (tV T a) from rfl] at u3
            have := q2 (by omega)
            omega
          · rw [← hpc, e]
          · rw [e] at hpc
            have hpc : pClause T s a = .inr ((rgP s.1 (tV T a) ar.length, s.2.1, adF s.2.2.1 (((fi s.1 (tV T a) : Nat) : Int), ar), ntS s.2.2.2 s.1 (tV T a) ar.length (tP T a)), a' + 1) := hpc.symm
            obtain ⟨w1', w2', w3'⟩ := pClause_wf hT hW ha hpc
            have pe := pProg_s (k := k) z hpc
            refine ⟨⟨by omega, by omega⟩, ih _ (a' + 1) w8 (x + 1) (by omega) (by omega) w1' ⟨c8.c0, by rw [F8.2.2]; exact hbt4, R4.frm F8 (fun q h1 h2 => by simp <;> omega), ⟨fc', B8, fun p hp => ?_, fun p => ?_, fun q => g3 q (hfe (nf.2 q).1)⟩, ?_⟩ (fun q w' e p' F' => hE q w' (pe.trans e) p' ((FG4.tr (FG.ff F8)).tr F')) (fun s' a'' w' e q1 q2 F' => hD s' a'' w' (pe.trans e) q1 q2 ((FG4.tr (FG.ff F8)).tr F'))⟩
            · have hp : (rgP s.1 (tV T a) ar.length).length ≤ p := hp
              rw [g1 p (by omega)]
              exact hfz p (Nat.le_trans rg_len hp)
            · by_cases ep : p = fi s.1 (tV T a)
              · rw [ep]
                have := hfr (fi s.1 (tV T a))
                rcases g2 with g2 | g2 <;> rw [g2] <;> omega
              · rw [g1 p ep]
                have := hfr p
                omega
            · obtain ⟨n, n1, n2, n3⟩ := Fc8
              exact ⟨n, n1, by omega, n3⟩
        · have e8 : ¬ tK T a' = 8 := by omega
          rw [if_neg e8, if_pos h11, if_pos h30, pRule, hpb] at hpc
          have hpc : pClause T s a = .inr ((s'.2.1, s.2.1 ++ [(((fi s.1 (tV T a) : Nat) : Int), (s'.2.2.1.length : Int), tot'.1, tot'.2, s'.1)], s.2.2.1, ntU s'.2.2.2.2 (ubd s'.2.2.1 (plan s'.1 s'.1.length).1)), a2 + 1) := hpc.symm
          obtain ⟨w1', w2', w3'⟩ := pClause_wf hT hW ha hpc
          have hlt := hT.lt y6 (by omega) (by omega)
          have hV' : VOk T V' (a' + 1) := y1.mono hT (by omega) (by omega)
          have hB0 : BOk T (tP T (a' + 1)) ([], rgP s.1 (tV T a) ar.length, V', 0, ntS s.2.2.2 s.1 (tV T a) ar.length (tP T a)) (a' + 1) := ⟨hV', y11, (ntS_ok hW.2.1 (hT.pl ha)).1, fun L hL => (by cases hL), List.Pairwise.nil, fun L hL => (by cases hL), Int.le_refl _⟩
          obtain ⟨z1, z2, z3, z4, z5, z6, z7⟩ := pBody_ok hT 6 _ _ _ _ hB0 (y2.mono hT (show a' ≤ a' + 1 by omega) (by omega)) (by omega) hpb
          have c2 : gI w6 9 2 = (s'.1.length : Nat) := c6.2.2.2.2.2.2.1
          refine ⟨fun q => by omega, fun _ => ?_⟩
          have hro := hW.ro
          have hok6 : lisOK s'.1 := fun L hL => (z1.2.2.2.1 L hL).1
          have z7' : (rgP s.1 (tV T a) ar.length).length ≤ s'.2.1.length := z7
          refine s_Rd_endRule (fc := fc) hT hb (by rw [F6.2.2]; exact hbt4) B6 (R4.frm F6 (fun q h1 h2 => by simp <;> omega)) h30 hro c6 L6 hok6 hl6 (by rw [F6.1 10 (by simp <;> omega)]; exact L4.2.2.1) (by omega) h8 (fun w8 c8 B8 R8 F8 => ⟨fun q => absurd q (by decide), fun _ => ?_⟩)
          have pe := pProg_s (k := k) z hpc
          have back : (ntU s'.2.2.2.2 (ubd s'.2.2.1 (plan s'.1 s'.1.length).1)).1 = 0 → s.2.2.2.1 = 0 := fun q => ((ntS_ok hW.2.1 (hT.pl ha)).2 (pBody_f0 hpb ((ntU_ok z1.2.2.1 (ubd_rng hT z1.1 z3)).2 q).1)).1
          have FG8 : FG b w w8 := (FG4.tr (FG.fd F6)).tr (FG.fe F8)
          refine ⟨⟨by omega, by omega⟩, ih _ (a2 + 1) w8 (x + 1) (by omega) (by omega) w1' ⟨c8.c0, by rw [F8.2.2, F6.2.2]; exact hbt4, R8, ⟨fc, B8, fun p hp => ?_, fun p => by have := hfr p; omega, fun q => ?_⟩, ?_⟩ (fun q w' e p' F' => hE q w' (pe.trans e) p' (FG8.tr F')) (fun s' a'' w' e q1 q2 F' => hD s' a'' w' (pe.trans e) q1 q2 (FG8.tr F'))⟩
          · have hp : s'.2.1.length ≤ p := hp
            have : s.1.length ≤ (rgP s.1 (tV T a) ar.length).length := rg_len
            exact hfz p (by omega)
          · exact hfe (back q)
          · obtain ⟨n, n1, n2, n3⟩ := ((Fc4.frm F6 (by simp <;> omega) (by simp <;> omega)).frm F8 (by simp <;> omega) (by simp))
            exact ⟨n, n1, by omega, fun q => n3 (back q)⟩
        · rw [if_neg (by omega), if_pos h11, if_pos h30, pRule, hpb] at hpc; exact hpc.symm
        · rw [if_neg (by omega), if_pos h11, if_neg h30] at hpc
          have : gI w4 10 1 = tP T a := L4.2.1
          rw [this]; exact hpc.symm
        · rw [if_neg h8, if_neg h11] at hpc; exact hpc.symm
      · refine hE q w4 (pProg_f z ?_) p4 ((FG.g F3).tr (FG.fa F4))
        rw [pClause, hp]
