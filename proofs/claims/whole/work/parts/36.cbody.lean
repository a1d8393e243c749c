/-! the class reads a body -/
theorem rg_len {P : PL} {x s : Int} : P.length ≤ (rgP P x s).length := by
  unfold rgP
  split
  · exact Nat.le_refl _
  · rw [List.length_append]; omega
theorem rg_sz {P : PL} {x s : Int} (hs : 1 ≤ s) (h : ∀ y ∈ P, 1 ≤ y.2) : ∀ y ∈ rgP P x s, 1 ≤ y.2 := by
  unfold rgP
  split
  · exact h
  · intro y hy
    rcases List.mem_append.mp hy with hy | hy
    · exact h y hy
    · rw [List.mem_singleton.mp hy]; exact hs
theorem pArgs_ne {T : Tks} {hd any : Bool} : ∀ (k : Nat) (ar : List Int) (V : PL) (tot : Int × Int) (a : Nat) ar' V' tot' a', pArgs T hd any k ar V tot a = .inr (ar', V', tot', a') → 1 ≤ ar'.length ∧ a + 2 ≤ a' := by
  intro k
  induction k with
  | zero => intro ar V tot a ar' V' tot' a' h; cases h
  | succ k ih =>
    intro ar V tot a ar' V' tot' a' h
    cases hp : pArg T hd any V tot a with
    | inl q => rw [pArgs_f hp] at h; cases h
    | inr r =>
      obtain ⟨t, V1, tot1, a1⟩ := r
      have hle : a + 1 ≤ a1 := by
        unfold pArg at hp
        split at hp
        · split at hp
          · unfold pTot at hp
            split at hp
            · cases hp
            · rename_i r e
              split at e
              · split at e
                · split at e
                  · split at e
                    · injection e with e
                      have e3 := congrArg (fun z => z.2.2) e
                      injection hp with hp
                      have e4 := congrArg (fun z => z.2.2.2) hp
                      simp at e3 e4
                      omega
                    · cases e
                  · cases e
                · cases e
              · cases e
          · cases hp
        · split at hp
          · split at hp
            · injection hp with hp
              have e4 := congrArg (fun z => z.2.2.2) hp
              simp at e4
              omega
            · cases hp
          · split at hp
            · cases hp
            · rename_i r e
              injection hp with hp
              have e4 := congrArg (fun z => z.2.2.2) hp
              simp at e4
              unfold pTerm pTerm0 at e
              split at e
              · split at e
                · injection e with e
                  have e3 := congrArg (fun z => z.2.2) e
                  simp at e3
                  omega
                · cases e
              · split at e
                · injection e with e
                  have e3 := congrArg (fun z => z.2.2) e
                  simp at e3
                  omega
                · split at e
                  · injection e with e
                    have e3 := congrArg (fun z => z.2.2) e
                    simp at e3
                    omega
                  · split at e
                    · split at e
                      · injection e with e
                        have e3 := congrArg (fun z => z.2.2) e
                        simp at e3
                        omega
                      · cases e
                    · cases e
      rw [pArgs_s hp] at h
      split at h
      · injection h with h
        have e1 := congrArg (fun z => z.1) h
        have e4 := congrArg (fun z => z.2.2.2) h
        simp at e1 e4
        rw [← e1, List.length_append]
        exact ⟨by show 1 ≤ ar.length + 1; omega, by omega⟩
      · split at h
        · obtain ⟨x1, x2⟩ := ih _ _ _ _ _ _ _ _ h
          exact ⟨x1, by omega⟩
        · cases h
theorem pAtom_ne {T : Tks} {P : PL} {hd any : Bool} {V : PL} {tot : Int × Int} {a : Nat} {ar : List Int} {V' : PL} {tot' : Int × Int} {a' : Nat} (h : pAtom T P hd any V tot a = .inr (ar, V', tot', a')) : 1 ≤ ar.length ∧ a + 4 ≤ a' ∧ tK T a = 2 ∧ (fi P (tV T a) < P.length ∨ P.length < 16) := by
  unfold pAtom at h
  split at h
  · rename_i hc
    split at h
    · obtain ⟨x1, x2⟩ := pArgs_ne _ _ _ _ _ _ _ _ _ h
      exact ⟨x1, by omega, hc.1, hc.2⟩
    · cases h
  · cases h
theorem pLit_P {T : Tks} {tot : Int × Int} {s s' : BSt} {a a' : Nat} (h : pLit T tot s a = .inr (s', a')) (hz : ∀ x ∈ s.2.1, 1 ≤ x.2) : s.2.1.length ≤ s'.2.1.length ∧ ∀ x ∈ s'.2.1, 1 ≤ x.2 := by
  unfold pLit at h
  split at h
  · split at h
    · cases h
    · rename_i r ar V' tt a'' e
      injection h with h
      have e1 := congrArg (fun z => z.1.2.1) h
      simp at e1
      rw [← e1]
      have := (pAtom_ne e).1
      exact ⟨rg_len, rg_sz (by omega) hz⟩
  · split at h
    · split at h
      · split at h
        · cases h
        · rename_i r ar V' tt a'' e
          injection h with h
          have e1 := congrArg (fun z => z.1.2.1) h
          simp at e1
          rw [← e1]
          have := (pAtom_ne e).1
          exact ⟨rg_len, rg_sz (by omega) hz⟩
      · cases h
    · split at h
      · cases h
      · injection h with h
        have e1 := congrArg (fun z => z.1.2.1) h
        simp at e1
        rw [← e1]
        exact ⟨Nat.le_refl _, hz⟩
/-- a literal of the body -/
def isLtB (l : Nat) : Prop := l = 19 ∨ l = 22 ∨ l = 25 ∨ l = 28 ∨ l = 31 ∨ l = 34
theorem ltb_l {l : Nat} (h : isLtB l) : isLt l := Or.inr h
theorem ltb_i {i : Nat} (h : i < 6) : isLtB (19 + 3 * i) := by
  have : i = 0 ∨ i = 1 ∨ i = 2 ∨ i = 3 ∨ i = 4 ∨ i = 5 := by omega
  rcases this with rfl | rfl | rfl | rfl | rfl | rfl
  · exact Or.inl rfl
  · exact Or.inr (Or.inl rfl)
  · exact Or.inr (Or.inr (Or.inl rfl))
  · exact Or.inr (Or.inr (Or.inr (Or.inl rfl)))
  · exact Or.inr (Or.inr (Or.inr (Or.inr (Or.inl rfl))))
  · exact Or.inr (Or.inr (Or.inr (Or.inr (Or.inr rfl))))
/-- what reading a body may change -/
abbrev FD (b : Nat) (w w' : Wo) : Prop := Frm [4, 9, 15, 19, 21, 22, 24, 25, 27, 28, 30, 31, 33, 34, 36, b, b + 14, b + 15, b + 16, b + 17, b + 18] [4, 14, 20, 23, 26, 29, 32, 35, b + 13] w w'
theorem FD.of {b l : Nat} {w w' : Wo} (hl : isLtB l) (h : FA b l w w') : FD b w w' := by
  rcases hl with rfl | rfl | rfl | rfl | rfl | rfl <;> exact h.sub (by simp) (by simp)
theorem FD.a {b : Nat} {w w' : Wo} (h : Frm [4] [4] w w') : FD b w w' := h.sub (by simp) (by simp)
theorem FD.c {b : Nat} {w w' : Wo} (h : Frm [9, 15] [14] w w') : FD b w w' := h.sub (by simp) (by simp)
theorem CS.siz {T : Tks} {nb a : Nat} {V : PL} {tot f : Int × Int} {sz ato z : Int} {w w' : Wo} (h : CS T nb a V tot f sz ato w) (e : w' = uI w 9 2 z) : CS T nb a V tot f z ato w' ∧ Frm [9, 15] [14] w w' := by
  obtain ⟨⟨t1, t2, t3⟩, ha, ⟨a1, a2, a3, a4⟩, ⟨v1, v2, v3⟩, ⟨o1, o2⟩, ⟨f1, f2⟩, s1, s2⟩ := h
  have F7 : Frm [9, 15] [14] w w' := by rw [e]; exact Frm.rf.uI (by decide)
  have n9 : ∀ k, k ≠ 2 → gI w' 9 k = gI w 9 k := by
    intro k h6
    rw [e, gI_uI, if_neg (by omega)]
  refine ⟨⟨⟨?_, ?_, fun i hi => ?_⟩, ha, ⟨?_, ?_, ?_, ?_⟩, ⟨?_, v2, fun i x hx => ?_⟩, ⟨?_, ?_⟩, ⟨?_, ?_⟩, ?_, ?_⟩, F7⟩
  · rw [F7.1 5 (by decide)]; exact t1
  · rw [F7.1 5 (by decide)]; exact t2
  · rw [F7.1 6 (by decide), F7.1 7 (by decide), F7.2.1 8 (by decide)]; exact t3 i hi
  · rw [F7.1 4 (by decide)]; exact a1
  · rw [F7.1 4 (by decide)]; exact a2
  · rw [F7.1 4 (by decide)]; exact a3
  · rw [F7.2.1 4 (by decide)]; exact a4
  · rw [n9 6 (by decide)]; exact v1
  · rw [e, gJ_uI, gI_uI, if_neg (by omega)]; exact v3 i x hx
  · rw [n9 4 (by decide)]; exact o1
  · rw [n9 5 (by decide)]; exact o2
  · rw [F7.1 4 (by decide)]; exact f1
  · rw [F7.1 4 (by decide)]; exact f2
  · rw [e, gI_uI, if_pos ⟨rfl, rfl⟩]
  · rw [n9 3 (by decide)]; exact s2
/-- the literals read so far -/
def LsC (ls : List Lit) (w : Wo) : Prop := ∀ i L, ls[i]? = some L → LiL (19 + 3 * i) L w
theorem LsC.a {ls : List Lit} {w w' : Wo} (h : LsC ls w) (hf : Frm [4] [4] w w') : LsC ls w' := fun i L hi => (h i L hi).frm hf (by simp; omega) (by simp; omega)
theorem LsC.c {ls : List Lit} {w w' : Wo} (h : LsC ls w) (hf : Frm [9, 15] [14] w w') : LsC ls w' := fun i L hi => (h i L hi).frm hf (by simp; omega) (by simp; omega)
theorem LsC.fa {ls : List Lit} {b : Nat} {w w' : Wo} (h : LsC ls w) (hl : ls.length < 6) (hb : isBk b) (hf : FA b (19 + 3 * ls.length) w w') : LsC ls w' := by
  intro i L hi
  have hi2 := (List.getElem?_eq_some_iff.mp hi).1
  have bc := bk_c hb
  exact (h i L hi).frm hf (by simp; omega) (by simp; omega)
def lsOK (ls : List Lit) : Prop := ∀ L ∈ ls, tsOK L.2.2.2.2
theorem pBody_s {T : Tks} {tot : Int × Int} {k : Nat} {s s' : BSt} {a a' : Nat} (h : pLit T tot s a = .inr (s', a')) : pBody T tot (k + 1) s a = if tK T a' = 8 then .inr (s', a') else if tK T a' = 7 then pBody T tot k s' (a' + 1) else .inl (tP T a') := by
  rw [pBody, h]
theorem pBody_f {T : Tks} {tot : Int × Int} {k : Nat} {s : BSt} {a : Nat} {q : Int} (h : pLit T tot s a = .inl q) : pBody T tot (k + 1) s a = .inl q := by
  rw [pBody, h]
theorem l_body {T : Tks} {nb b : Nat} {tot : Int × Int} {N : Nat → Int × Int × Int} {K : Int → Wo → Prop} (hT : TOk T nb) (hb : isBk b) : ∀ (m : Nat) (s : BSt) (a : Nat) (w : Wo), s.1.length + m = 6 → CS T nb a s.2.2.1 tot s.2.2.2.2 (s.1.length : Nat) (s.2.2.2.1 : Nat) w → gP w 4 3 = b → BkC b s.2.1 N w → (∀ p, s.2.1.length ≤ p → N p = (0, 0, 0)) → (∀ x ∈ s.2.1, 1 ≤ x.2) → LsC s.1 w → lsOK s.1 →
    (∀ s' a' w', pBody T tot m s a = .inr (s', a') → tK T a' = 8 → lsOK s'.1 → s'.1.length ≤ 6 → 1 ≤ s'.1.length → CS T nb a' s'.2.2.1 tot s'.2.2.2.2 (s'.1.length : Nat) (s'.2.2.2.1 : Nat) w' → BkC b s'.2.1 N w' → LsC s'.1 w' → FD b w w' → K 1 w') →
    (∀ q w', pBody T tot m s a = .inl q → FP q w' → FD b w w' → K 0 w') →
    Wp m_Rd_readBody 63 [(0, vr 4), (1, vi (s.1.length : Int))] [] (0, 0) w (fun r w' => ∃ y, r = some (vi y) ∧ K y w') := by
  intro m
  induction m with
  | zero =>
    intro s a w hm hs hbt hB hz hsz hls hok h1 h0
    have a3 := hs.2.2.1.2.2.1
    refine t_Rd_readBody_63 ⟨fun _ => ?_, fun z => by omega⟩
    rw [a3]
    exact s_Rd_refuse (fun w' c F => ⟨Or.inl rfl, kI (h0 _ w' rfl c (FD.a F))⟩)
  | succ m ih =>
    intro s a w hm hs hbt hB hz hsz hls hok h1 h0
    have hlb := ltb_i (i := s.1.length) (by omega)
    refine t_Rd_readBody_63 ⟨fun z => by omega, fun _ => ⟨⟨by omega, by omega⟩, ?_⟩⟩
    rw [show ((s.1.length : Int)).toNat = s.1.length from rfl]
    refine s_Rd_readLiteral hT hs (ltb_l hlb) hb hbt hB hz hsz (fun L P' V' ato' f' a' hp hokL w5 c5 L5 B5 F5 => ⟨fun _ => ?_, fun q => absurd q (by decide)⟩) (fun q hp w5 c5 F5 => ⟨fun z => absurd rfl z, fun _ => kI (h0 q w5 (pBody_f hp) c5 (FD.of hlb F5))⟩)
    have g5 : gI w5 9 2 = (s.1.length : Nat) := c5.2.2.2.2.2.2.1
    rw [g5]
    refine ⟨⟨by omega, by omega⟩, fun w7 e7 => ?_⟩
    obtain ⟨c7, F7⟩ := c5.siz e7
    have g7 : gI w7 4 7 = tK T a' := c7.2.2.1.2.1
    have hls7 : LsC (s.1 ++ [L]) w7 := by
      intro i L' hi
      rcases getApp hi with ⟨hi2, hi⟩ | ⟨hi2, hi⟩
      · exact ((hls.fa (by omega) hb F5).c F7) i L' hi
      · rw [hi2, ← hi]; exact L5.f9 (ltb_l hlb) F7
    have B7 : BkC b P' N w7 := B5.ft hb (ltb_l hlb) (FT.c F7)
    have F7' : FD b w w7 := (FD.of hlb F5).tr (FD.c F7)
    have hll : (s.1 ++ [L]).length = s.1.length + 1 := by rw [List.length_append]; rfl
    have hok7 : lsOK (s.1 ++ [L]) := by
      intro x hx
      rcases List.mem_append.mp hx with hx | hx
      · exact hok x hx
      · rw [List.mem_singleton.mp hx]; exact hokL
    obtain ⟨hP1, hP2⟩ := pLit_P hp hsz
    have c7' : CS T nb a' V' tot f' ((s.1 ++ [L]).length : Nat) (ato' : Nat) w7 := by rw [hll]; exact c7
    rw [g7]
    refine ⟨fun z => ?_, fun z => kI (h1 _ a' w7 (by rw [pBody_s hp, if_pos z]) z hok7 (by show (s.1 ++ [L]).length ≤ 6; omega) (by show 1 ≤ (s.1 ++ [L]).length; omega) c7' B7 hls7 F7')⟩
    refine s_Rd_take hT c7' (by decide) (fun q7 w9 c9 F9 => ⟨fun _ => ⟨⟨by omega, by omega⟩, ?_⟩, fun q => absurd q (by decide)⟩) (fun q7 w9 c9 F9 => ⟨fun q => absurd rfl q, fun _ => kI (h0 _ w9 (by rw [pBody_s hp, if_neg z, if_neg q7]) c9 (F7'.tr (FD.a F9)))⟩)
    have e : pBody T tot (m + 1) s a = pBody T tot m (s.1 ++ [L], P', V', ato', f') (a' + 1) := by rw [pBody_s hp, if_neg z, if_pos q7]
    rw [e] at h1 h0
    have t9 : gP w9 4 3 = b := by rw [(F7'.tr (FD.a F9)).2.2]; exact hbt
    have := ih (s.1 ++ [L], P', V', ato', f') (a' + 1) w9 (by show (s.1 ++ [L]).length + m = 6; omega) c9 t9 (B7.ft hb (ltb_l hlb) (FT.a F9)) (fun p hp => hz p (Nat.le_trans hP1 hp)) hP2 (hls7.a F9) hok7 (fun s' a2 w' x1 x2 x3 x4 x5 x6 x7 x8 x9 => h1 s' a2 w' x1 x2 x3 x4 x5 x6 x7 x8 ((F7'.tr (FD.a F9)).tr x9)) (fun q w' x1 x2 x3 => h0 q w' x1 x2 ((F7'.tr (FD.a F9)).tr x3))
    show Wp m_Rd_readBody 63 [(0, vr 4), (1, vi ((s.1.length : Int) + 1))] [] (0, 0) w9 _
    rw [show (s.1.length : Int) + 1 = ((s.1 ++ [L]).length : Nat) by rw [hll]; rfl]
    exact this
