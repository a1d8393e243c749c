/-! all tokens of a tape -/
theorem sort_c {x : Int} : sortOf x = 0 ∨ sortOf x = 1 ∨ sortOf x = 2 ∨ sortOf x = 4 := by
  unfold sortOf
  split
  · exact Or.inr (Or.inl rfl)
  · split
    · exact Or.inr (Or.inr (Or.inl rfl))
    · split
      · exact Or.inr (Or.inr (Or.inr rfl))
      · exact Or.inl rfl
theorem fS_hd : fS 5 = fun x => !decide (b_iand (sortOf x) 5 = 0) := rfl
theorem tkEnd_gt {c : Nat → Int} {n p : Nat} (hp : p < n) : p < tkEnd c n p ∧ (tkEnd c n p ≤ n ∨ tkEnd c n p ≤ p + 2) := by
  unfold tkEnd
  have gtE : ∀ S : Int, fS S (c p) = true → p < endE (fS S) c n p ∧ endE (fS S) c n p ≤ n := by
    intro S hS
    rw [endE_go hp hS]
    have := endE_le (f := fS S) (c := c) (n := n) n (p + 1) (by omega) (by omega)
    omega
  by_cases h1 : sortOf (c p) = 1
  · rw [if_pos h1]
    have := gtE 5 (by unfold fS; rw [h1]; decide)
    omega
  · rw [if_neg h1]
    by_cases h2 : sortOf (c p) = 2
    · rw [if_pos h2]
      have := gtE 7 (by unfold fS; rw [h2]; decide)
      omega
    · rw [if_neg h2]
      by_cases h4 : sortOf (c p) = 4
      · rw [if_pos h4]
        have := gtE 4 (by unfold fS; rw [h4]; decide)
        omega
      · rw [if_neg h4]
        split <;> omega
def toksF (c : Nat → Int) (n : Nat) : Nat → Nat → List Nat
  | 0, _ => []
  | k + 1, p => if n ≤ p then [] else if c p = 32 then toksF c n k (p + 1) else p :: toksF c n k (tkEnd c n p)
/-- the places at which the tokens from p on begin -/
def toks (c : Nat → Int) (n p : Nat) : List Nat := toksF c n (n - p) p
theorem toksF_eq {c : Nat → Int} {n : Nat} : ∀ k p, n - p ≤ k → toksF c n k p = toks c n p := by
  intro k
  induction k using Nat.strongRecOn with
  | ind k ih =>
    intro p hk
    by_cases hp : n ≤ p
    · unfold toks
      rw [show n - p = 0 by omega]
      cases k with
      | zero => rfl
      | succ k => exact if_pos hp
    · cases k with
      | zero => omega
      | succ k =>
        unfold toks
        rw [show n - p = (n - p - 1) + 1 by omega]
        show (if n ≤ p then _ else _) = (if n ≤ p then _ else _)
        rw [if_neg hp, if_neg hp]
        by_cases h32 : c p = 32
        · rw [if_pos h32, if_pos h32, ih k (by omega) (p + 1) (by omega)]
          by_cases hk2 : n - p - 1 < k + 1
          · exact (ih (n - p - 1) hk2 (p + 1) (by omega)).symm
          · omega
        · have hg := tkEnd_gt (c := c) (n := n) (p := p) (by omega)
          rw [if_neg h32, if_neg h32, ih k (by omega) (tkEnd c n p) (by omega), ih (n - p - 1) (by omega) (tkEnd c n p) (by omega)]
theorem toks_n {c : Nat → Int} {n p : Nat} (h : n ≤ p) : toks c n p = [] := by
  unfold toks
  rw [show n - p = 0 by omega]
  rfl
theorem toks_sp {c : Nat → Int} {n p : Nat} (h : p < n) (h2 : c p = 32) : toks c n p = toks c n (p + 1) := by
  rw [← toksF_eq (n - p + 1) p (by omega)]
  show (if n ≤ p then _ else _) = _
  rw [if_neg (by omega), if_pos h2, toksF_eq _ _ (by omega)]
theorem toks_tk {c : Nat → Int} {n p : Nat} (h : p < n) (h2 : ¬ c p = 32) : toks c n p = p :: toks c n (tkEnd c n p) := by
  have hg := tkEnd_gt (c := c) (n := n) h
  rw [← toksF_eq (n - p + 1) p (by omega)]
  show (if n ≤ p then _ else _) = _
  rw [if_neg (by omega), if_neg h2, toksF_eq _ _ (by omega)]
/-- the class's row of a token -/
def tk7 (c : Nat → Int) (n p : Nat) : Int × Int × Int := (kd c n p, (p : Int), v7 c n p)
theorem l_cut {c : Nat → Int} {n : Nat} {w0 : Wo} {Q : Option AV → Wo → Prop} (h : ∀ w', TkR ((toks c n 0).map (tk7 c n) ++ [(0, (n : Int), 0)]) w' → Frm [5, 6, 7] [8] w0 w' → Q none w') : ∀ (k q e : Nat) (acc : List Nat) (w : Wo), n - q ≤ k → q ≤ n → TpR c n w → Frm [5, 6, 7] [8] w0 w → TkR (acc.map (tk7 c n)) w → acc.length ≤ q → acc ++ toks c n (max q e) = toks c n 0 → (e ≤ q ∨ acc.length < q + 1) → e ≤ 602 → Wp m_Tk_cut 9 [(0, vr 5), (1, vr 2), (2, vi (e : Int)), (3, vi (q : Int))] [] (0, 0) w Q := by
  intro k
  induction k with
  | zero =>
    intro q e acc w hk hq ht hf hr hl ha he he2
    have h600 := ht.1
    have hn := ht.2.1
    refine t_Tk_cut_9 ⟨fun h1 => ?_, fun h1 => by omega⟩
    have hl2 : (acc.map (tk7 c n)).length ≤ 600 := by rw [List.length_map]; omega
    refine s_Tk_add hr hl2 ?_
    obtain ⟨r1, r2⟩ := hr.add hl2 0 (gI w 2 1) 0
    rw [toks_n (show n ≤ max q e by omega), List.append_nil] at ha
    rw [hn, ha] at r1
    refine h _ ?_ (hf.tr r2)
    rw [hn]
    exact r1
  | succ k ih =>
    intro q e acc w hk hq ht hf hr hl ha he he2
    have h600 := ht.1
    have hn := ht.2.1
    have hl2 : (acc.map (tk7 c n)).length ≤ 600 := by rw [List.length_map]; omega
    refine t_Tk_cut_9 ⟨fun h1 => ?_, fun h1 => ⟨fun h2 => ⟨⟨by omega, by omega⟩, ?_⟩, fun h2 => ?_⟩⟩
    · refine s_Tk_add hr hl2 ?_
      obtain ⟨r1, r2⟩ := hr.add hl2 0 (gI w 2 1) 0
      rw [toks_n (show n ≤ max q e by omega), List.append_nil] at ha
      rw [hn, ha] at r1
      refine h _ ?_ (hf.tr r2)
      rw [hn]
      exact r1
    · exact ih (q + 1) e acc w (by omega) (by omega) ht hf hr (by omega) (by rw [show max (q + 1) e = max q e by omega]; exact ha) (Or.inr (by omega)) he2
    · have hqn : q < n := by omega
      have hmx : max q e = q := by omega
      rw [hmx] at ha
      refine s_Tp_at ht ?_
      rw [chf_at hqn]
      refine ⟨fun h3 => ⟨⟨by omega, by omega⟩, ?_⟩, fun h3 => s_Tp_sortAt ht ?_⟩
      · rw [toks_sp hqn h3] at ha
        exact ih (q + 1) e acc w (by omega) (by omega) ht hf hr (by omega) (by rw [show max (q + 1) e = q + 1 by omega]; exact ha) (Or.inl (by omega)) he2
      · rw [chf_at hqn]
        rw [toks_tk hqn h3] at ha
        have hg := tkEnd_gt (c := c) hqn
        have fin : inr32 ((q : Int) + 1) ∧ Wp m_Tk_cut 9 [(0, vr 5), (1, vr 2), (2, vi (tkEnd c n q : Nat)), (3, vi ((q : Int) + 1))] [] (0, 0) (tkA c n q w) Q := by
          refine ⟨⟨by omega, by omega⟩, ?_⟩
          obtain ⟨r1, r2⟩ := hr.add hl2 (kd c n q) (q : Int) (v7 c n q)
          refine ih (q + 1) (tkEnd c n q) (acc ++ [q]) _ (by omega) (by omega) (ht.frm r2 (by decide) (by decide)) (hf.tr r2) ?_ (by simp; omega) ?_ (Or.inr (by simp; omega)) (by omega)
          · rw [List.map_append]
            exact r1
          · rw [show max (q + 1) (tkEnd c n q) = tkEnd c n q by omega, List.append_assoc]
            exact ha
        refine ⟨fun h4 => s_Tk_cutName ht hr hl2 hqn h4 fin, fun h4 => s_Tk_cutVariable ht hr hl2 hqn h4 fin, fun h4 => s_Tk_cutNumber ht hr hl2 hqn h4 fin, fun a1 a2 a4 => s_Tk_cutSign ht hr hl2 hqn a1 a2 a4 fin⟩
theorem s_Tk_cut {c : Nat → Int} {n : Nat} {w : Wo} {K : Wo → Prop} (ht : TpR c n w) (h : ∀ w', TkR ((toks c n 0).map (tk7 c n) ++ [(0, (n : Int), 0)]) w' → Frm [5, 6, 7] [8] w w' → K w') : MetV m_Tk_cut [vr 5, vr 2] w K := by
  refine met_of (by decide) rfl (Nat.le_of_ble_eq_true rfl) (t_Tk_cut_0 (fun w1 e1 => ?_))
  subst e1
  have hf : Frm [5, 6, 7] [8] w (uI w 5 3 0) := Frm.rf.uI (by decide)
  exact l_cut (w0 := w) (fun w' a b => ⟨rfl, h w' a b⟩) n 0 0 [] _ (by omega) (by omega) (ht.frm hf (by decide) (by decide)) hf ⟨by rw [gI_self]; rfl, Nat.zero_le _, fun i t hi => by cases hi⟩ (Nat.le_refl _) rfl (Or.inl (Nat.le_refl _)) (by omega)
