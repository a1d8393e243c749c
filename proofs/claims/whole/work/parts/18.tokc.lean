/-! the class's Tokens: a token is what the characters from a place on give -/
/-- one token more -/
def tkAdd (w : Wo) (a : Int) (b : Int) (v : Int) : Wo := uI (uJ (uI (uI w 6 (gI w 5 3).toNat a) 7 (gI w 5 3).toNat b) 8 (gI w 5 3).toNat v) 5 3 (gI w 5 3 + 1)
/-- the class's token rows hold these tokens -/
def TkR (ps : List (Int × Int × Int)) (w : Wo) : Prop := gI w 5 3 = ps.length ∧ ps.length ≤ 601 ∧ ∀ i t, ps[i]? = some t → gI w 6 i = t.1 ∧ gI w 7 i = t.2.1 ∧ gJ w 8 i = t.2.2
theorem s_Tk_add {ps : List (Int × Int × Int)} {w : Wo} {a b v : Int} {K : Wo → Prop} (hr : TkR ps w) (hl : ps.length ≤ 600) (h : K (tkAdd w a b v)) : MetV m_Tk_add [vr 5, vi a, vi b, vl v] w K := by
  obtain ⟨hc, -, -⟩ := hr
  refine met_of (by decide) rfl (Nat.le_of_ble_eq_true rfl) (t_Tk_add_0 ⟨fun h1 => by omega, fun h1 => ⟨⟨by omega, by omega⟩, fun w2 e2 => ?_⟩⟩)
  have g2 : gI w2 5 3 = gI w 5 3 := by rw [e2, gI_uI, if_neg (by omega)]
  rw [g2]
  refine ⟨⟨by omega, by omega⟩, fun w5 e5 => ?_⟩
  have g5 : gI w5 5 3 = gI w 5 3 := by rw [e5, gI_uI, if_neg (by omega), g2]
  rw [g5]
  refine ⟨⟨by omega, by omega⟩, fun w8 e8 => ?_⟩
  have g8 : gI w8 5 3 = gI w 5 3 := by rw [e8, gI_uJ, g5]
  rw [g8]
  refine ⟨⟨by omega, by omega⟩, fun w10 e10 => ⟨rfl, ?_⟩⟩
  have e : w10 = tkAdd w a b v := by rw [e10, e8, e5, e2]; rfl
  rw [e]; exact h
theorem TkR.add {ps : List (Int × Int × Int)} {w : Wo} (hr : TkR ps w) (hl : ps.length ≤ 600) (a b v : Int) : TkR (ps ++ [(a, b, v)]) (tkAdd w a b v) ∧ Frm [5, 6, 7] [8] w (tkAdd w a b v) := by
  obtain ⟨hc, h0, hr⟩ := hr
  have hk : (gI w 5 3).toNat = ps.length := by omega
  refine ⟨⟨?_, by simp; omega, fun i t hi => ?_⟩, ((((Frm.rf.uI (by decide)).uI (by decide)).uJ (by decide)).uI (by decide))⟩
  · unfold tkAdd
    rw [gI_self, hc]
    simp
  · have q1 : gI (tkAdd w a b v) 6 i = if 6 = 6 ∧ i = ps.length then a else gI w 6 i := by
      unfold tkAdd
      rw [hk, gI_uI, if_neg (by omega), gI_uJ, gI_uI, if_neg (by omega), gI_uI]
    have q2 : gI (tkAdd w a b v) 7 i = if 7 = 7 ∧ i = ps.length then b else gI w 7 i := by
      unfold tkAdd
      rw [hk, gI_uI, if_neg (by omega), gI_uJ, gI_uI]
      by_cases hz : i = ps.length
      · rw [if_pos ⟨rfl, hz⟩, if_pos ⟨rfl, hz⟩]
      · rw [if_neg (fun z => hz z.2), if_neg (fun z => hz z.2), gI_uI, if_neg (by omega)]
    have q3 : gJ (tkAdd w a b v) 8 i = if 8 = 8 ∧ i = ps.length then v else gJ w 8 i := by
      unfold tkAdd
      rw [hk, gJ_uI, gJ_uJ]
      rfl
    rw [q1, q2, q3]
    by_cases hi2 : i < ps.length
    · rw [List.getElem?_append_left hi2] at hi
      rw [if_neg (by omega), if_neg (by omega), if_neg (by omega)]
      exact hr i t hi
    · rw [List.getElem?_append_right (by omega)] at hi
      have hz : i - ps.length < 1 := (List.getElem?_eq_some_iff.mp hi).1
      rw [show i - ps.length = 0 by omega] at hi
      cases hi
      have hi3 : i = ps.length := by omega
      rw [if_pos ⟨rfl, hi3⟩, if_pos ⟨rfl, hi3⟩, if_pos ⟨rfl, hi3⟩]
      exact ⟨rfl, rfl, rfl⟩
/-- where the token at p ends -/
def tkEnd (c : Nat → Int) (n p : Nat) : Nat := if sortOf (c p) = 1 then endE (fS 5) c n p else if sortOf (c p) = 2 then endE (fS 7) c n p else if sortOf (c p) = 4 then endE (fS 4) c n p else if pairK (c p) (chf c n ((p : Int) + 1)) = 1 then p + 1 else p + 2
/-- its kind -/
def kd (c : Nat → Int) (n p : Nat) : Int := if sortOf (c p) = 1 then (if endE (fS 5) c n p - p ≤ 6 then (if totOf c p (endE (fS 5) c n p) ≤ 0 then (if spP c p (endE (fS 5) c n p) 4 then 16 else 2) else 17) else 1)
  else if sortOf (c p) = 2 then (if endE (fS 7) c n p - p ≤ 4 then 3 else 1)
  else if sortOf (c p) = 4 then (if endE (fS 4) c n p - p ≤ 9 then 4 else 1)
  else if pairK (c p) (chf c n ((p : Int) + 1)) = 1 then signK (c p) else pairK (c p) (chf c n ((p : Int) + 1))
/-- its value, as the class packs it -/
def v7 (c : Nat → Int) (n p : Nat) : Int := if sortOf (c p) = 1 then (if endE (fS 5) c n p - p ≤ 6 then (if totOf c p (endE (fS 5) c n p) ≤ 0 then (if spP c p (endE (fS 5) c n p) 4 then 0 else (pkT 128 c (endE (fS 5) c n p - p) p 0 : Nat)) else totOf c p (endE (fS 5) c n p)) else 0)
  else if sortOf (c p) = 2 then (if endE (fS 7) c n p - p ≤ 4 then (pkT 128 c (endE (fS 7) c n p - p) p 0 : Nat) else 0)
  else if sortOf (c p) = 4 then (if endE (fS 4) c n p - p ≤ 9 then (nmA c (endE (fS 4) c n p - p) p 0 : Nat) else 0)
  else 0
abbrev tkA (c : Nat → Int) (n p : Nat) (w : Wo) : Wo := tkAdd w (kd c n p) (p : Int) (v7 c n p)
theorem s_Tk_cutName {c : Nat → Int} {n p : Nat} {ps : List (Int × Int × Int)} {w : Wo} {K : Int → Wo → Prop} (ht : TpR c n w) (hr : TkR ps w) (hl : ps.length ≤ 600) (hp : p < n) (hs : sortOf (c p) = 1) (h : K (tkEnd c n p : Nat) (tkA c n p w)) : MetI m_Tk_cutName [vr 5, vr 2, vi (p : Int)] w K := by
  have h600 := ht.1
  have hle := endE_le (f := fS 5) (c := c) (n := n) n p (by omega) (by omega)
  unfold tkA tkEnd kd v7 at h
  simp only [if_pos hs] at h
  refine met_of (by decide) rfl (Nat.le_of_ble_eq_true rfl) (t_Tk_cutName_0 (s_Tp_endOfRun ht (by omega) (s_Tk_totalAt ht hle.2 hle.1 ⟨⟨by omega, by omega⟩, fun h1 => ⟨fun h2 => ?_, fun h2 => ?_⟩, fun h1 => ?_⟩)))
  · have hA : endE (fS 5) c n p - p ≤ 6 := by omega
    simp only [if_pos hA, if_pos h2] at h
    refine s_Tp_spells (i := 4) ht (by decide) hle.2 hle.1 (fun z => ⟨fun a => absurd a (by decide), fun _ => ?_⟩) (fun z => ⟨fun _ => ?_, fun a => absurd rfl a⟩)
    · simp only [if_pos z] at h
      exact s_Tk_add hr hl (kI h)
    · simp only [if_neg z] at h
      exact s_Tp_packed ht hle.1 hle.2 hA (s_Tk_add hr hl (kI h))
  · have hA : endE (fS 5) c n p - p ≤ 6 := by omega
    simp only [if_pos hA, if_neg h2] at h
    exact s_Tk_add hr hl (kI h)
  · have hA : ¬ endE (fS 5) c n p - p ≤ 6 := by omega
    simp only [if_neg hA] at h
    exact s_Tk_add hr hl (kI h)
theorem s_Tk_cutVariable {c : Nat → Int} {n p : Nat} {ps : List (Int × Int × Int)} {w : Wo} {K : Int → Wo → Prop} (ht : TpR c n w) (hr : TkR ps w) (hl : ps.length ≤ 600) (hp : p < n) (hs : sortOf (c p) = 2) (h : K (tkEnd c n p : Nat) (tkA c n p w)) : MetI m_Tk_cutVariable [vr 5, vr 2, vi (p : Int)] w K := by
  have h600 := ht.1
  have hle := endE_le (f := fS 7) (c := c) (n := n) n p (by omega) (by omega)
  unfold tkA tkEnd kd v7 at h
  have hs1 : ¬ sortOf (c p) = 1 := by rw [hs]; decide
  simp only [if_neg hs1, if_pos hs] at h
  refine met_of (by decide) rfl (Nat.le_of_ble_eq_true rfl) (t_Tk_cutVariable_0 (s_Tp_endOfRun ht (by omega) ⟨⟨by omega, by omega⟩, fun h1 => ?_, fun h1 => ?_⟩))
  · have hA : endE (fS 7) c n p - p ≤ 4 := by omega
    simp only [if_pos hA] at h
    exact s_Tp_packed ht hle.1 hle.2 (by omega) (s_Tk_add hr hl (kI h))
  · have hA : ¬ endE (fS 7) c n p - p ≤ 4 := by omega
    simp only [if_neg hA] at h
    exact s_Tk_add hr hl (kI h)
theorem endE_all {f : Int → Bool} {c : Nat → Int} {n : Nat} : ∀ k p, n - p ≤ k → ∀ i, p ≤ i → i < endE f c n p → f (c i) = true := by
  intro k
  induction k with
  | zero => intro p h1 i h2 h3; rw [endE_n (by omega)] at h3; omega
  | succ k ih =>
    intro p h1 i h2 h3
    by_cases hp : p < n
    · cases hf : f (c p) with
      | false => rw [endE_stop hf] at h3; omega
      | true =>
        rw [endE_go hp hf] at h3
        by_cases hi : i = p
        · rw [hi]; exact hf
        · exact ih (p + 1) (by omega) i (by omega) h3
    · rw [endE_n (by omega)] at h3; omega
theorem fS4 {x : Int} (h : fS 4 x = true) : 48 ≤ x ∧ x ≤ 57 := by
  unfold fS sortOf at h
  by_cases h1 : 97 ≤ x ∧ x ≤ 122
  · rw [if_pos h1] at h; exact absurd h (by decide)
  · rw [if_neg h1] at h
    by_cases h2 : 65 ≤ x ∧ x ≤ 90
    · rw [if_pos h2] at h; exact absurd h (by decide)
    · rw [if_neg h2] at h
      by_cases h3 : 48 ≤ x ∧ x ≤ 57
      · exact h3
      · rw [if_neg h3] at h; exact absurd h (by decide)
theorem s_Tk_cutNumber {c : Nat → Int} {n p : Nat} {ps : List (Int × Int × Int)} {w : Wo} {K : Int → Wo → Prop} (ht : TpR c n w) (hr : TkR ps w) (hl : ps.length ≤ 600) (hp : p < n) (hs : sortOf (c p) = 4) (h : K (tkEnd c n p : Nat) (tkA c n p w)) : MetI m_Tk_cutNumber [vr 5, vr 2, vi (p : Int)] w K := by
  have h600 := ht.1
  have hle := endE_le (f := fS 4) (c := c) (n := n) n p (by omega) (by omega)
  unfold tkA tkEnd kd v7 at h
  have hs1 : ¬ sortOf (c p) = 1 := by rw [hs]; decide
  have hs2 : ¬ sortOf (c p) = 2 := by rw [hs]; decide
  simp only [if_neg hs1, if_neg hs2, if_pos hs] at h
  refine met_of (by decide) rfl (Nat.le_of_ble_eq_true rfl) (t_Tk_cutNumber_0 (s_Tp_endOfRun ht (by omega) ⟨⟨by omega, by omega⟩, fun h1 => ?_, fun h1 => ?_⟩))
  · have hA : endE (fS 4) c n p - p ≤ 9 := by omega
    simp only [if_pos hA] at h
    exact s_Tp_number ht hle.1 hle.2 (by omega) (fun i h2 h3 => fS4 (endE_all n p (by omega) i h2 h3)) (s_Tk_add hr hl (kI h))
  · have hA : ¬ endE (fS 4) c n p - p ≤ 9 := by omega
    simp only [if_neg hA] at h
    exact s_Tk_add hr hl (kI h)
theorem s_Tk_cutSign {c : Nat → Int} {n p : Nat} {ps : List (Int × Int × Int)} {w : Wo} {K : Int → Wo → Prop} (ht : TpR c n w) (hr : TkR ps w) (hl : ps.length ≤ 600) (hp : p < n) (h1 : ¬ sortOf (c p) = 1) (h2 : ¬ sortOf (c p) = 2) (h4 : ¬ sortOf (c p) = 4) (h : K (tkEnd c n p : Nat) (tkA c n p w)) : MetI m_Tk_cutSign [vr 5, vr 2, vi (p : Int)] w K := by
  have h600 := ht.1
  unfold tkA tkEnd kd v7 at h
  simp only [if_neg h1, if_neg h2, if_neg h4] at h
  refine met_of (by decide) rfl (Nat.le_of_ble_eq_true rfl) (t_Tk_cutSign_0 (s_Tp_at ht ⟨⟨by omega, by omega⟩, s_Tp_at ht (s_Tk_pairKind ?_)⟩))
  rw [chf_at hp]
  refine ⟨fun h5 => s_Tp_at ht (s_Tk_signKind (s_Tk_add hr hl ⟨⟨by omega, by omega⟩, kI ?_⟩)), fun h5 => s_Tk_add hr hl ⟨⟨by omega, by omega⟩, kI ?_⟩⟩
  · rw [chf_at hp]
    simp only [if_pos h5] at h
    exact h
  · simp only [if_neg h5] at h
    exact h
