/-! the reference cuts the tape -/
theorem toks_ord {c : Nat → Int} {n : Nat} : ∀ k p, n - p ≤ k → (toks c n p).Pairwise (· < ·) ∧ ∀ x ∈ toks c n p, p ≤ x ∧ x < n := by
  intro k
  induction k with
  | zero =>
    intro p hk
    rw [toks_n (by omega)]
    exact ⟨List.Pairwise.nil, fun x hx => by cases hx⟩
  | succ k ih =>
    intro p hk
    by_cases hp : n ≤ p
    · rw [toks_n hp]
      exact ⟨List.Pairwise.nil, fun x hx => by cases hx⟩
    · by_cases h32 : c p = 32
      · rw [toks_sp (by omega) h32]
        obtain ⟨a, b⟩ := ih (p + 1) (by omega)
        exact ⟨a, fun x hx => by have := b x hx; omega⟩
      · rw [toks_tk (by omega) h32]
        have hg := tkEnd_gt (c := c) (n := n) (p := p) (by omega)
        obtain ⟨a, b⟩ := ih (tkEnd c n p) (by omega)
        refine ⟨List.Pairwise.cons (fun x hx => by have := b x hx; omega) a, fun x hx => ?_⟩
        rcases List.mem_cons.mp hx with rfl | hx
        · omega
        · have := b x hx; omega
/-- only these fields of the reference's object change -/
def F78 (S : List Nat) (w w' : Wo) : Prop := ∀ k, k ∉ S → gI w' 78 k = gI w 78 k
theorem F78.rf {S : List Nat} {w : Wo} : F78 S w w := fun _ _ => rfl
theorem F78.tr {S : List Nat} {w w' w'' : Wo} (h1 : F78 S w w') (h2 : F78 S w' w'') : F78 S w w'' := fun k hk => (h2 k hk).trans (h1 k hk)
/-- the reference's tokens so far -/
def MkR (c : Nat → Int) (n : Nat) (acc : List Nat) (w : Wo) : Prop := gI w 78 5 = acc.length ∧ ∀ i p, acc[i]? = some p → TokRel (kd c n p) (v7 c n p) (gI w 80 i) (gI w 82 i) (gJ w 83 i) ∧ gI w 81 i = (p : Nat)
theorem mkAdd_f {w : Wo} {a cd b v : Int} : Frm [78, 80, 81, 82] [83] w (mkAdd w a cd b v) ∧ F78 [5] w (mkAdd w a cd b v) := by
  refine ⟨?_, fun k hk => ?_⟩
  · exact ((((Frm.rf.uI (by decide)).uI (by decide)).uI (by decide)).uJ (by decide)).uI (by decide)
  · unfold mkAdd
    simp only [List.mem_singleton] at hk
    rw [gI_uI, if_neg (by omega), gI_uJ, gI_uI, if_neg (by omega), gI_uI, if_neg (by omega), gI_uI, if_neg (by omega)]
theorem mkAdd_at {w : Wo} {a cd b v : Int} : gI (mkAdd w a cd b v) 78 5 = gI w 78 5 + 1 ∧ gI (mkAdd w a cd b v) 80 (gI w 78 5).toNat = a ∧ gI (mkAdd w a cd b v) 82 (gI w 78 5).toNat = cd ∧ gI (mkAdd w a cd b v) 81 (gI w 78 5).toNat = b ∧ gJ (mkAdd w a cd b v) 83 (gI w 78 5).toNat = v := by
  unfold mkAdd
  simp only [gI_uI, gI_uJ, gJ_uI, gJ_uJ]
  simp
theorem mkAdd_ne {w : Wo} {a cd b v : Int} {i : Nat} (h : i ≠ (gI w 78 5).toNat) : gI (mkAdd w a cd b v) 80 i = gI w 80 i ∧ gI (mkAdd w a cd b v) 82 i = gI w 82 i ∧ gI (mkAdd w a cd b v) 81 i = gI w 81 i ∧ gJ (mkAdd w a cd b v) 83 i = gJ w 83 i := by
  unfold mkAdd
  simp only [gI_uI, gI_uJ, gJ_uI, gJ_uJ]
  simp [h]
theorem MkR.add {c : Nat → Int} {n : Nat} {acc : List Nat} {w : Wo} (h : MkR c n acc w) {p : Nat} {mk mc mv : Int} (ht : TokRel (kd c n p) (v7 c n p) mk mc mv) : MkR c n (acc ++ [p]) (mkAdd w mk mc (p : Int) mv) := by
  obtain ⟨h1, h2⟩ := h
  obtain ⟨a0, a1, a2, a3, a4⟩ := mkAdd_at (w := w) (a := mk) (cd := mc) (b := (p : Int)) (v := mv)
  refine ⟨by rw [a0, h1, List.length_append]; rfl, fun i q hi => ?_⟩
  have hl : (gI w 78 5).toNat = acc.length := by rw [h1]; rfl
  by_cases hi2 : i < acc.length
  · rw [List.getElem?_append_left hi2] at hi
    obtain ⟨b1, b2, b3, b4⟩ := mkAdd_ne (w := w) (a := mk) (cd := mc) (b := (p : Int)) (v := mv) (i := i) (by omega)
    rw [b1, b2, b3, b4]
    exact h2 i q hi
  · rw [List.getElem?_append_right (by omega)] at hi
    have hi3 : i = acc.length := by
      by_cases h5 : i - acc.length = 0
      · omega
      · rw [List.getElem?_eq_none (by simp; omega)] at hi
        cases hi
    subst hi3
    rw [Nat.sub_self] at hi
    have hq : p = q := by simpa using hi
    subst hq
    rw [hl] at a1 a2 a3 a4
    rw [a1, a2, a3, a4]
    exact ⟨ht, rfl⟩
/-- what tokenize leaves: as many tokens as the class's, or up to the first that is none -/
def MkP (c : Nat → Int) (n : Nat) (w : Wo) : Prop := ∃ nb, nb ≤ (toks c n 0).length ∧ (∀ p, (toks c n 0)[nb]? = some p → kd c n p = 1) ∧ ∀ i, i ≤ nb → ∀ t, ((toks c n 0).map (tk7 c n) ++ [(0, (n : Int), 0)])[i]? = some t → TokRel t.1 t.2.2 (gI w 80 i) (gI w 82 i) (gJ w 83 i) ∧ gI w 81 i = t.2.1
theorem TR_6 {k x mc mv : Int} (h : TokRel k x 6 mc mv) : k = 1 := by
  unfold TokRel at h
  omega
theorem MkP_bad {c : Nat → Int} {n : Nat} {acc rest : List Nat} {p : Nat} {w : Wo} (h : MkR c n (acc ++ [p]) w) (hb : kd c n p = 1) (he : acc ++ [p] ++ rest = toks c n 0) (a cd b v : Int) : MkP c n (mkAdd w a cd b v) := by
  obtain ⟨h1, h2⟩ := h
  have hl : (gI w 78 5).toNat = acc.length + 1 := by rw [h1, List.length_append]; rfl
  refine ⟨acc.length, by rw [← he]; simp, fun q hq => ?_, fun i hi t hit => ?_⟩
  · rw [← he, List.append_assoc, List.getElem?_append_right (Nat.le_refl _), Nat.sub_self] at hq
    have : p = q := by simpa using hq
    rw [← this]; exact hb
  · obtain ⟨b1, b2, b3, b4⟩ := mkAdd_ne (w := w) (a := a) (cd := cd) (b := b) (v := v) (i := i) (by omega)
    rw [b1, b2, b3, b4]
    have hi2 : i < (acc ++ [p]).length := by rw [List.length_append]; show i < acc.length + 1; omega
    rw [← he, List.map_append, List.append_assoc, List.getElem?_append_left (by rw [List.length_map]; exact hi2), List.getElem?_map] at hit
    obtain ⟨q, hq, hqt⟩ := Option.map_eq_some_iff.mp hit
    subst hqt
    exact h2 i q hq
theorem MkP_end {c : Nat → Int} {n : Nat} {w : Wo} (h : MkR c n (toks c n 0) w) : MkP c n (mkAdd w 0 0 (n : Int) 0) := by
  obtain ⟨h1, h2⟩ := h
  have hl : (gI w 78 5).toNat = (toks c n 0).length := by rw [h1]; rfl
  obtain ⟨a0, a1, a2, a3, a4⟩ := mkAdd_at (w := w) (a := 0) (cd := 0) (b := (n : Int)) (v := 0)
  rw [hl] at a1 a2 a3 a4
  refine ⟨(toks c n 0).length, Nat.le_refl _, fun q hq => ?_, fun i hi t hit => ?_⟩
  · rw [List.getElem?_eq_none (Nat.le_refl _)] at hq; cases hq
  · by_cases hi2 : i < (toks c n 0).length
    · obtain ⟨b1, b2, b3, b4⟩ := mkAdd_ne (w := w) (a := 0) (cd := 0) (b := (n : Int)) (v := 0) (i := i) (by omega)
      rw [b1, b2, b3, b4]
      rw [List.getElem?_append_left (by rw [List.length_map]; exact hi2), List.getElem?_map] at hit
      obtain ⟨q, hq, hqt⟩ := Option.map_eq_some_iff.mp hit
      subst hqt
      exact h2 i q hq
    · have hi3 : i = (toks c n 0).length := by omega
      subst hi3
      rw [List.getElem?_append_right (by rw [List.length_map]; exact Nat.le_refl _), List.length_map, Nat.sub_self] at hit
      have : ((0 : Int), (n : Int), (0 : Int)) = t := by simpa using hit
      subst this
      rw [a1, a2, a3, a4]
      exact ⟨Or.inl ⟨rfl, rfl⟩, rfl⟩
theorem MtR.frm {c : Nat → Int} {n : Nat} {A B S : List Nat} {w w' : Wo} (h : MtR c n w) (hf : Frm A B w w') (h2 : 79 ∉ A) (h8 : F78 S w w') (hS : 2 ∉ S) : MtR c n w' := ⟨h.1, by rw [h8 2 hS]; exact h.2.1, fun i hi => by rw [hf.1 79 h2]; exact h.2.2.1 i hi, h.2.2.2⟩
theorem l_mtok {c : Nat → Int} {n : Nat} {w0 : Wo} {Q : Option AV → Wo → Prop} (h : ∀ w', MkP c n w' → Frm [78, 80, 81, 82] [83] w0 w' → F78 [5] w0 w' → Q none w') : ∀ (k q : Nat) (acc : List Nat) (w : Wo), n - q ≤ k → (q ≤ n + 2) → acc.length ≤ q → MtR c n w → Frm [78, 80, 81, 82] [83] w0 w → F78 [5] w0 w → MkR c n acc w → acc ++ toks c n q = toks c n 0 → acc.length ≤ n → Wp m_M_tokenize 9 [(0, vr 78), (1, vi (q : Int)), (2, vi 1)] [] (0, 0) w Q := by
  intro k
  induction k with
  | zero =>
    intro q acc w hk hq hl ht hf hf8 hr ha hln
    have h600 := ht.1
    have hn := ht.2.1
    have hc := hr.1
    refine t_M_tokenize_9 ⟨fun z => absurd z (by decide), fun _ => ⟨fun h1 => s_M_token (by rw [hc]; omega) ?_, fun h1 => by omega⟩⟩
    rw [toks_n (by omega), List.append_nil] at ha
    rw [ha] at hr
    obtain ⟨f1, f2⟩ := mkAdd_f (w := w) (a := 0) (cd := 0) (b := gI w 78 2) (v := 0)
    refine h _ ?_ (hf.tr f1) (hf8.tr f2)
    rw [hn]
    exact MkP_end hr
  | succ k ih =>
    intro q acc w hk hq hl ht hf hf8 hr ha hln
    have h600 := ht.1
    have hn := ht.2.1
    have hc := hr.1
    refine t_M_tokenize_9 ⟨fun z => absurd z (by decide), fun _ => ⟨fun h1 => s_M_token (by rw [hc]; omega) ?_, fun h1 => ⟨⟨by omega, by omega⟩, fun h2 => ?_, fun h2 => ⟨⟨by omega, by omega⟩, ?_⟩⟩⟩⟩
    · rw [toks_n (by omega), List.append_nil] at ha
      rw [ha] at hr
      obtain ⟨f1, f2⟩ := mkAdd_f (w := w) (a := 0) (cd := 0) (b := gI w 78 2) (v := 0)
      refine h _ ?_ (hf.tr f1) (hf8.tr f2)
      rw [hn]
      exact MkP_end hr
    · have hqn : q < n := by omega
      have hcq : gI w 79 q = c q := ht.2.2.1 q hqn
      rw [show ((q : Int)).toNat = q from rfl, hcq] at h2
      rw [toks_tk hqn h2] at ha
      have hg := tkEnd_gt (c := c) hqn
      refine s_M_oneToken ht hqn (by rw [hc]; omega) (fun mk mc mv w' hT hw => ?_)
      subst hw
      have hr2 := hr.add hT
      obtain ⟨f1, f2⟩ := mkAdd_f (w := w) (a := mk) (cd := mc) (b := (q : Int)) (v := mv)
      obtain ⟨a0, a1, -⟩ := mkAdd_at (w := w) (a := mk) (cd := mc) (b := (q : Int)) (v := mv)
      have ht2 := ht.frm f1 (by decide) f2 (by decide)
      rw [a0, show gI w 78 5 + 1 - 1 = gI w 78 5 by omega, a1]
      have hal : acc.length ≤ q := hl
      have ha2 : acc ++ [q] ++ toks c n (tkEnd c n q) = toks c n 0 := by rw [List.append_assoc]; exact ha
      have hl2 : (acc ++ [q]).length = acc.length + 1 := by rw [List.length_append]; rfl
      refine ⟨by rw [hc]; exact ⟨by omega, by omega⟩, by rw [hc]; exact ⟨by omega, by omega⟩, fun h6 => ?_, fun h6 => ?_⟩
      · subst h6
        have hb := TR_6 hT
        have hn2 := ht2.2.1
        refine t_M_tokenize_9 ⟨fun _ => s_M_token (by rw [a0, hc]; exact ⟨by omega, by omega⟩) ?_, fun z => absurd rfl z⟩
        obtain ⟨g1, g2⟩ := mkAdd_f (w := mkAdd w 6 mc (q : Int) mv) (a := 0) (cd := 0) (b := gI (mkAdd w 6 mc (q : Int) mv) 78 2) (v := 0)
        exact h _ (MkP_bad hr2 hb ha2 _ _ _ _) ((hf.tr f1).tr g1) ((hf8.tr f2).tr g2)
      · refine ih (tkEnd c n q) (acc ++ [q]) _ (by omega) (by omega) (by omega) ht2 (hf.tr f1) (hf8.tr f2) hr2 ha2 (by omega)
    · have hqn : q < n := by omega
      have hcq : gI w 79 q = c q := ht.2.2.1 q hqn
      rw [show ((q : Int)).toNat = q from rfl, hcq] at h2
      rw [toks_sp hqn h2] at ha
      exact ih (q + 1) acc w (by omega) (by omega) (by omega) ht hf hf8 hr ha hln
theorem s_M_tokenize {c : Nat → Int} {n : Nat} {w : Wo} {K : Wo → Prop} (ht : MtR c n w) (h : ∀ w', MkP c n w' → Frm [78, 80, 81, 82] [83] w w' → F78 [5] w w' → K w') : MetV m_M_tokenize [vr 78] w K := by
  refine met_of (by decide) rfl (Nat.le_of_ble_eq_true rfl) (t_M_tokenize_0 (fun w1 e1 => ?_))
  subst e1
  have hf : Frm [78, 80, 81, 82] [83] w (uI w 78 5 0) := Frm.rf.uI (by decide)
  have hf8 : F78 [5] w (uI w 78 5 0) := fun k hk => by
    simp only [List.mem_singleton] at hk
    rw [gI_uI, if_neg (by omega)]
  exact l_mtok (w0 := w) (fun w' a b d => ⟨rfl, h w' a b d⟩) n 0 [] _ (by omega) (by omega) (Nat.le_refl _) (ht.frm hf (by decide) hf8 (by decide)) hf hf8 ⟨by rw [gI_self]; rfl, fun i p hi => by cases hi⟩ rfl (Nat.zero_le _)
