/-! PURE PICTURE 2: tokens; the class's Tokens -/
/-- ints outside the cells A, longs outside B and all references are as they were -/
def Frm (A B : List Nat) (w w' : Wo) : Prop := (∀ o, o ∉ A → ∀ k, gI w' o k = gI w o k) ∧ (∀ o, o ∉ B → ∀ k, gJ w' o k = gJ w o k) ∧ ∀ o k, gP w' o k = gP w o k
theorem Frm.rf {A B : List Nat} {w : Wo} : Frm A B w w := ⟨fun _ _ _ => rfl, fun _ _ _ => rfl, fun _ _ => rfl⟩
theorem Frm.tr {A B : List Nat} {w w' w'' : Wo} (h1 : Frm A B w w') (h2 : Frm A B w' w'') : Frm A B w w'' := ⟨fun o ho k => (h2.1 o ho k).trans (h1.1 o ho k), fun o ho k => (h2.2.1 o ho k).trans (h1.2.1 o ho k), fun o k => (h2.2.2 o k).trans (h1.2.2 o k)⟩
theorem Frm.sub {A B A' B' : List Nat} {w w' : Wo} (h : Frm A B w w') (hA : ∀ o ∈ A, o ∈ A') (hB : ∀ o ∈ B, o ∈ B') : Frm A' B' w w' := ⟨fun o ho k => h.1 o (fun z => ho (hA o z)) k, fun o ho k => h.2.1 o (fun z => ho (hB o z)) k, h.2.2⟩
theorem Frm.uI {A B : List Nat} {w w' : Wo} (h : Frm A B w w') {o k : Nat} {v : Int} (ho : o ∈ A) : Frm A B w (uI w' o k v) := ⟨fun b hb j => by
  rw [gI_uI, if_neg (fun z => hb (by rw [z.1]; exact ho))]
  exact h.1 b hb j, h.2.1, h.2.2⟩
theorem Frm.uJ {A B : List Nat} {w w' : Wo} (h : Frm A B w w') {o k : Nat} {v : Int} (ho : o ∈ B) : Frm A B w (uJ w' o k v) := ⟨h.1, fun b hb j => by
  rw [gJ_uJ, if_neg (fun z => hb (by rw [z.1]; exact ho))]
  exact h.2.1 b hb j, h.2.2⟩
theorem TpR.frm {c : Nat → Int} {n : Nat} {A B : List Nat} {w w' : Wo} (h : TpR c n w) (hf : Frm A B w w') (h2 : 2 ∉ A) (h3 : 3 ∉ A) : TpR c n w' := ⟨h.1, by rw [hf.1 2 h2]; exact h.2.1, fun i hi => by rw [hf.1 3 h3]; exact h.2.2.1 i hi, h.2.2.2⟩
/-- character t of word i -/
def stc (i t : Nat) : Int := ((stB.getD i []).getD t 0).toInt
/-- the text from p to e is word i -/
abbrev spP (c : Nat → Int) (p e i : Nat) : Prop := e - p = stN.getD i 0 ∧ ∀ t, t < stN.getD i 0 → c (p + t) = stc i t
theorem l_spells {c : Nat → Int} {n p e i : Nat} {w : Wo} {Q : Option AV → Wo → Prop} (ht : TpR c n w) (hi : i < 5) (he : e ≤ n) (hp : p ≤ e) (hl : e - p = stN.getD i 0) (h1 : spP c p e i → Q (some (vi 1)) w) (h0 : ¬ spP c p e i → Q (some (vi 0)) w) : ∀ (k j : Nat), j + k = stN.getD i 0 → (∀ t, t < j → c (p + t) = stc i t) → Wp m_Tp_spells 15 [(0, vr 2), (1, vi (p : Int)), (3, vr (1001 + i)), (4, vi (j : Int))] [] (0, 0) w Q := by
  have h600 := ht.1
  have h5 := stN5 i hi
  intro k
  induction k with
  | zero =>
    intro j hj heq
    refine t_Tp_spells_15 ⟨i, hi, rfl⟩ (s_length ⟨i, hi, rfl⟩ ?_)
    rw [stL_in]
    refine ⟨fun h3 => h1 ⟨hl, fun t ht2 => heq t (by omega)⟩, fun h3 => ?_⟩
    omega
  | succ k ih =>
    intro j hj heq
    refine t_Tp_spells_15 ⟨i, hi, rfl⟩ (s_length ⟨i, hi, rfl⟩ ?_)
    rw [stL_in]
    refine ⟨fun h3 => by omega, fun h3 => ⟨⟨by omega, by omega⟩, ?_⟩⟩
    have e1 : (p : Int) + (j : Int) = ((p + j : Nat) : Int) := by omega
    rw [e1]
    refine s_Tp_at ht ?_
    rw [chf_at (by omega)]
    refine s_charAt ⟨i, hi, rfl⟩ (by rw [stL_in]; omega) ?_
    have e2 : stCh (1001 + i) (j : Int) = stc i j := by
      unfold stCh stc
      rw [show 1001 + i - 1001 = i by omega]
      rfl
    rw [e2]
    refine ⟨fun h4 => ⟨⟨by omega, by omega⟩, ?_⟩, fun h4 => h0 (fun z => h4 (z.2 j (by omega)))⟩
    refine ih (j + 1) (by omega) (fun t ht2 => ?_)
    by_cases hj2 : t = j
    · rw [hj2]; exact h4
    · exact heq t (by omega)
theorem s_Tp_spells {c : Nat → Int} {n p e i : Nat} {w : Wo} {K : Int → Wo → Prop} (ht : TpR c n w) (hi : i < 5) (he : e ≤ n) (hp : p ≤ e) (h1 : spP c p e i → K 1 w) (h0 : ¬ spP c p e i → K 0 w) : MetI m_Tp_spells [vr 2, vi (p : Int), vi (e : Int), vr (1001 + i)] w K := by
  have h600 := ht.1
  refine met_of (by decide) rfl (Nat.le_of_ble_eq_true rfl) (t_Tp_spells_0 ⟨i, hi, rfl⟩ ⟨⟨by omega, by omega⟩, s_length ⟨i, hi, rfl⟩ ?_⟩)
  rw [stL_in]
  refine ⟨fun h3 => ?_, fun h3 => kI (h0 (fun z => h3 (by omega)))⟩
  exact l_spells ht hi he hp (by omega) (fun z => kI (h1 z)) (fun z => kI (h0 z)) (stN.getD i 0) 0 (by omega) (fun t ht2 => by omega)
/-- which TOTAL a text is, 0 none -/
def totOf (c : Nat → Int) (p e : Nat) : Int := if spP c p e 0 then 1 else if spP c p e 1 then 2 else if spP c p e 2 then 3 else if spP c p e 3 then 4 else 0
theorem s_Tk_totalAt {c : Nat → Int} {n p e : Nat} {w : Wo} {K : Int → Wo → Prop} (ht : TpR c n w) (he : e ≤ n) (hp : p ≤ e) (h : K (totOf c p e) w) : MetI m_Tk_totalAt [vr 2, vi (p : Int), vi (e : Int)] w K := by
  unfold totOf at h
  refine met_of (by decide) rfl (Nat.le_of_ble_eq_true rfl) (t_Tk_totalAt_0 ?_)
  refine s_Tp_spells (i := 0) ht (by decide) he hp (fun z => ⟨fun a => absurd a (by decide), fun _ => kI ?_⟩) (fun z => ⟨fun _ => ?_, fun a => absurd rfl a⟩)
  · rw [if_pos z] at h; exact h
  rw [if_neg z] at h
  refine s_Tp_spells (i := 1) ht (by decide) he hp (fun z => ⟨fun a => absurd a (by decide), fun _ => kI ?_⟩) (fun z => ⟨fun _ => ?_, fun a => absurd rfl a⟩)
  · rw [if_pos z] at h; exact h
  rw [if_neg z] at h
  refine s_Tp_spells (i := 2) ht (by decide) he hp (fun z => ⟨fun a => absurd a (by decide), fun _ => kI ?_⟩) (fun z => ⟨fun _ => ?_, fun a => absurd rfl a⟩)
  · rw [if_pos z] at h; exact h
  rw [if_neg z] at h
  refine s_Tp_spells (i := 3) ht (by decide) he hp (fun z => ⟨fun a => absurd a (by decide), fun _ => kI ?_⟩) (fun z => ⟨fun _ => kI ?_, fun a => absurd rfl a⟩)
  · rw [if_pos z] at h; exact h
  · rw [if_neg z] at h; exact h
def pairK (a b : Int) : Int := if a = 58 ∧ b = 45 then 11 else if (a = 33 ∨ a = 60 ∨ a = 62) ∧ b = 61 then 13 else 1
theorem s_Tk_pairKind {a b : Int} {w : Wo} {K : Int → Wo → Prop} (h : K (pairK a b) w) : MetI m_Tk_pairKind [vi a, vi b] w K := by
  have h15 : ¬ (a = 58 ∧ b = 45) → Wp m_Tk_pairKind 15 [(0, vi a), (1, vi b)] [] (0, 0) w (fun r w' => ∃ y, r = some (vi y) ∧ K y w') := by
    intro hn
    unfold pairK at h
    rw [if_neg hn] at h
    refine t_Tk_pairKind_15 ⟨fun h1 => ⟨fun h2 => kI ?_, fun h2 => kI ?_⟩, fun h1 => ⟨fun h3 => ⟨fun h2 => kI ?_, fun h2 => kI ?_⟩, fun h3 => ⟨fun h4 => kI ?_, fun h4 => ⟨fun h2 => kI ?_, fun h2 => kI ?_⟩⟩⟩⟩
    · rw [if_neg (fun z => h2 z.2)] at h; exact h
    · rw [if_pos ⟨Or.inl h1, h2⟩] at h; exact h
    · rw [if_neg (fun z => h2 z.2)] at h; exact h
    · rw [if_pos ⟨Or.inr (Or.inl h3), h2⟩] at h; exact h
    · rw [if_neg (fun z => by rcases z.1 with z | z | z <;> contradiction)] at h; exact h
    · rw [if_neg (fun z => h2 z.2)] at h; exact h
    · rw [if_pos ⟨Or.inr (Or.inr h4), h2⟩] at h; exact h
  refine met_of (by decide) rfl (Nat.le_of_ble_eq_true rfl) (t_Tk_pairKind_0 ⟨fun h1 => h15 (fun z => h1 z.1), fun h1 => ⟨fun h2 => h15 (fun z => h2 z.2), fun h2 => kI ?_⟩⟩)
  unfold pairK at h
  rw [if_pos ⟨h1, h2⟩] at h; exact h
def signK (a : Int) : Int := if a = 33 then 9 else if a = 37 then 15 else if a = 40 then 5 else if a = 41 then 6 else if a = 42 then 15 else if a = 43 then 15 else if a = 44 then 7 else if a = 45 then 14 else if a = 46 then 8 else if a = 47 then 15 else if a = 60 then 13 else if a = 61 then 12 else if a = 62 then 13 else if a = 95 then 10 else 1
theorem s_Tk_signKind {a : Int} {w : Wo} {K : Int → Wo → Prop} (h : K (signK a) w) : MetI m_Tk_signKind [vi a] w K := by
  refine met_of (by decide) rfl (Nat.le_of_ble_eq_true rfl) (t_Tk_signKind_0 ⟨?_, ?_, ?_, ?_, ?_, ?_, ?_, ?_, ?_, ?_, ?_, ?_, ?_, ?_, ?_⟩)
  all_goals first
    | (intro e; subst e; exact kI h)
    | (intro h1 h2 h3 h4 h5 h6 h7 h8 h9 h10 h11 h12 h13 h14
       refine kI ?_
       unfold signK at h
       rw [if_neg h1, if_neg h2, if_neg h3, if_neg h4, if_neg h5, if_neg h6, if_neg h7, if_neg h8, if_neg h9, if_neg h10, if_neg h11, if_neg h12, if_neg h13, if_neg h14] at h
       exact h)
