/-! the class keeps a clause -/
def rcR : List Rul → Nat → Nat
  | [], _ => 0
  | r :: R, p => (if r.1 = (p : Int) then 1 else 0) + rcR R p
def hmA : List Lit → Nat
  | [] => 0
  | L :: r => (if L.1 = 0 ∨ L.1 = 1 then 2 ^ L.2.2.1.toNat else 0) ||| hmA r
def hgR : List Rul → Nat → Nat
  | [], _ => 0
  | r :: R, p => (if r.1 = (p : Int) then hmA r.2.2.2.2 else 0) ||| hgR R p
def fcR : List Fct → Nat → Nat
  | [], _ => 0
  | x :: F, p => (if x.1 = (p : Int) then 1 else 0) + fcR F p
theorem rcR_app (R : List Rul) (r : Rul) (p : Nat) : rcR (R ++ [r]) p = rcR R p + (if r.1 = (p : Int) then 1 else 0) := by
  induction R with
  | nil => show (if r.1 = (p : Int) then 1 else 0) + 0 = 0 + _; omega
  | cons x R ih =>
    show (if x.1 = (p : Int) then 1 else 0) + rcR (R ++ [r]) p = (if x.1 = (p : Int) then 1 else 0) + rcR R p + _
    rw [ih]; omega
theorem fcR_app (R : List Fct) (r : Fct) (p : Nat) : fcR (R ++ [r]) p = fcR R p + (if r.1 = (p : Int) then 1 else 0) := by
  induction R with
  | nil => show (if r.1 = (p : Int) then 1 else 0) + 0 = 0 + _; omega
  | cons x R ih =>
    show (if x.1 = (p : Int) then 1 else 0) + fcR (R ++ [r]) p = (if x.1 = (p : Int) then 1 else 0) + fcR R p + _
    rw [ih]; omega
theorem hmA_app (ls : List Lit) (L : Lit) : hmA (ls ++ [L]) = hmA ls ||| (if L.1 = 0 ∨ L.1 = 1 then 2 ^ L.2.2.1.toNat else 0) := by
  induction ls with
  | nil => show (if L.1 = 0 ∨ L.1 = 1 then 2 ^ L.2.2.1.toNat else 0) ||| 0 = 0 ||| _; rw [Nat.or_zero, Nat.zero_or]
  | cons x ls ih =>
    show _ ||| hmA (ls ++ [L]) = (_ ||| hmA ls) ||| _
    rw [ih, Nat.or_assoc]
theorem hgR_app (R : List Rul) (r : Rul) (p : Nat) : hgR (R ++ [r]) p = hgR R p ||| (if r.1 = (p : Int) then hmA r.2.2.2.2 else 0) := by
  induction R with
  | nil => show (if r.1 = (p : Int) then hmA r.2.2.2.2 else 0) ||| 0 = 0 ||| _; rw [Nat.or_zero, Nat.zero_or]
  | cons x R ih =>
    show _ ||| hgR (R ++ [r]) p = (_ ||| hgR R p) ||| _
    rw [ih, Nat.or_assoc]
theorem rcR_le (R : List Rul) (p : Nat) : rcR R p ≤ R.length := by
  induction R with
  | nil => exact Nat.le_refl _
  | cons x R ih =>
    show (if x.1 = (p : Int) then 1 else 0) + rcR R p ≤ R.length + 1
    split <;> omega
theorem rcR_0 {R : List Rul} {p : Nat} (h : ∀ r ∈ R, r.1 < (p : Int)) : rcR R p = 0 ∧ hgR R p = 0 := by
  induction R with
  | nil => exact ⟨rfl, rfl⟩
  | cons x R ih =>
    obtain ⟨h1, h2⟩ := ih (fun r hr => h r (List.mem_cons_of_mem _ hr))
    have hx := h x (List.mem_cons_self ..)
    have hx : ¬ x.1 = (p : Int) := by omega
    constructor
    · show (if x.1 = (p : Int) then 1 else 0) + rcR R p = 0
      rw [if_neg hx, h1]
    · show (if x.1 = (p : Int) then hmA x.2.2.2.2 else 0) ||| hgR R p = 0
      rw [if_neg hx, h2]; rfl
theorem litOK.a {L : Lit} (h : litOK L) (hk : L.1 = 0 ∨ L.1 = 1) : 0 ≤ L.2.2.1 ∧ L.2.2.1 < 16 := by
  rcases h.2.2 with h | h | h
  · exact ⟨h.2.1, h.2.2.1⟩
  · omega
  · omega
theorem litOK.b {L : Lit} (h : litOK L) (hk : ¬ (L.1 = 0 ∨ L.1 = 1)) : L.2.2.1 = -1 := by
  rcases h.2.2 with h | h | h
  · exact absurd h.1 hk
  · exact h.2.1
  · exact h.2.1
theorem hmA_lt {ls : List Lit} (h : lisOK ls) : hmA ls < 65536 := by
  induction ls with
  | nil => decide
  | cons L r ih =>
    refine Nat.or_lt_two_pow (n := 16) ?_ (ih (fun x hx => h x (List.mem_cons_of_mem _ hx)))
    split
    · rename_i hk
      have := (h L (List.mem_cons_self ..)).a hk
      exact Nat.pow_lt_pow_right (show 1 < 2 by decide) (by omega)
    · decide
def rsOK (R : List Rul) : Prop := ∀ r ∈ R, lisOK r.2.2.2.2 ∧ r.2.2.2.2.length ≤ 6
theorem hgR_lt {R : List Rul} (h : rsOK R) (p : Nat) : hgR R p < 65536 := by
  induction R with
  | nil => show 0 < 65536; decide
  | cons r R ih =>
    refine Nat.or_lt_two_pow (n := 16) ?_ (ih (fun x hx => h x (List.mem_cons_of_mem _ hx)))
    split
    · exact hmA_lt (h r (List.mem_cons_self ..)).1
    · decide
def Nf (R : List Rul) (fc : Nat → Int) (p : Nat) : Int × Int × Int := ((rcR R p : Nat), fc p, (hgR R p : Nat))
/-- one rule in the class's rows -/
def RlI (b i : Nat) (r : Rul) (w : Wo) : Prop := gI w (b + 2) i = r.1 ∧ gI w (b + 3) i = r.2.2.2.2.length ∧ gI w (b + 4) i = r.2.1 ∧ gI w (b + 5) i = r.2.2.1 ∧ gI w (b + 6) i = r.2.2.2.1 ∧ (∀ j L, r.2.2.2.2[j]? = some L → gI w (b + 7) (6 * i + j) = L.1 ∧ gI w (b + 8) (6 * i + j) = L.2.2.1 ∧ gI w (b + 9) (6 * i + j) = L.2.1) ∧ ∀ j x, (plan r.2.2.2.2 r.2.2.2.2.length).2.2[j]? = some x → gI w (b + 10) (6 * i + j) = x.1 ∧ gI w (b + 11) (6 * i + j) = x.2.1 ∧ gI w (b + 12) (6 * i + j) = x.2.2
def RlC (b : Nat) (R : List Rul) (w : Wo) : Prop := gI w (b + 1) 0 = R.length ∧ ∀ i r, R[i]? = some r → RlI b i r w
theorem RlC.frm {b : Nat} {R : List Rul} {w w' : Wo} {A B : List Nat} (h : RlC b R w) (hf : Frm A B w w') (hA : ∀ q, 1 ≤ q → q ≤ 12 → b + q ∉ A) : RlC b R w' := by
  have e : ∀ q, 1 ≤ q → q ≤ 12 → ∀ j, gI w' (b + q) j = gI w (b + q) j := fun q h1 h2 j => hf.1 _ (hA q h1 h2) j
  refine ⟨by rw [e 1 (by decide) (by decide)]; exact h.1, fun i r hr => ?_⟩
  obtain ⟨r1, r2, r3, r4, r5, r6, r7⟩ := h.2 i r hr
  refine ⟨?_, ?_, ?_, ?_, ?_, fun j L hL => ?_, fun j x hx => ?_⟩
  · rw [e 2 (by decide) (by decide)]; exact r1
  · rw [e 3 (by decide) (by decide)]; exact r2
  · rw [e 4 (by decide) (by decide)]; exact r3
  · rw [e 5 (by decide) (by decide)]; exact r4
  · rw [e 6 (by decide) (by decide)]; exact r5
  · rw [e 7 (by decide) (by decide), e 8 (by decide) (by decide), e 9 (by decide) (by decide)]; exact r6 j L hL
  · rw [e 10 (by decide) (by decide), e 11 (by decide) (by decide), e 12 (by decide) (by decide)]; exact r7 j x hx
theorem take_s {α : Type} {ls : List α} {k : Nat} {L : α} (h : ls[k]? = some L) : ls.take (k + 1) = ls.take k ++ [L] := by
  rw [List.take_succ, h]; rfl
theorem l_addR {b hd : Nat} {ls : List Lit} {w4 : Wo} {H : Nat} {Q : Option AV → Wo → Prop} (hb : isBk b) (hhd : hd < 16) (hH : H < 65536) (hok : lisOK ls) (h6 : ls.length ≤ 6) (hsz : gI w4 9 2 = (ls.length : Nat)) (hls : LsC ls w4) (h : ∀ w', (∀ j, gI w' (b + 18) j = if j = hd then ((H ||| hmA ls : Nat) : Int) else gI w4 (b + 18) j) → Frm [b + 18] [] w4 w' → Q none w') : ∀ (m k : Nat) (w5 : Wo), ls.length - k ≤ m → k ≤ ls.length → (∀ j, gI w5 (b + 18) j = if j = hd then ((H ||| hmA (ls.take k) : Nat) : Int) else gI w4 (b + 18) j) → Frm [b + 18] [] w4 w5 → Wp m_Bk_addRule 41 [(0, vr b), (1, vr 9), (2, vi (hd : Int)), (3, vi (k : Int))] [] (0, 0) w5 Q := by
  have bc := bk_c hb
  intro m
  induction m with
  | zero =>
    intro k w5 hm hk hj F
    have e : k = ls.length := by omega
    have z1 : gI w5 9 2 = (ls.length : Nat) := by rw [F.1 9 (by simp <;> omega)]; exact hsz
    refine t_Bk_addRule_41 hb ⟨fun _ => h w5 (fun j => ?_) F, fun z => by omega⟩
    rw [hj j, e, List.take_length]
  | succ m ih =>
    intro k w5 hm hk hj F
    by_cases hks : k < ls.length
    · have z1 : gI w5 9 2 = (ls.length : Nat) := by rw [F.1 9 (by simp <;> omega)]; exact hsz
      obtain ⟨L, hL⟩ : ∃ L, ls[k]? = some L := ⟨_, List.getElem?_eq_getElem hks⟩
      have hLm : L ∈ ls := List.mem_of_getElem? hL
      have hC : LiL (19 + 3 * k) L w5 := (hls k L hL).frm F (by simp <;> omega) (by simp)
      have ht := take_s hL
      refine t_Bk_addRule_41 hb ⟨fun z => by omega, fun _ => ⟨⟨by omega, by omega⟩, ?_⟩⟩
      rw [show ((k : Int)).toNat = k from rfl, show ((hd : Int)).toNat = hd from rfl]
      refine s_Lt_isAtom (ltb_l (ltb_i (by omega))) hC (fun hk2 => ⟨fun q => absurd q (by decide), fun _ => ⟨⟨by omega, by omega⟩, ⟨by omega, by omega⟩, ⟨by omega, by omega⟩, fun w9 e9 => ⟨⟨by omega, by omega⟩, ?_⟩⟩⟩) (fun hk2 => ⟨fun _ => ⟨⟨by omega, by omega⟩, ?_⟩, fun q => absurd rfl q⟩)
      · have ha := (hok L hLm).a hk2
        have hx : hmA (ls.take k) < 65536 := hmA_lt (fun x hx => hok x (List.mem_of_mem_take hx))
        have hor : H ||| hmA (ls.take k) < 65536 := Nat.or_lt_two_pow (n := 16) hH hx
        have hp2 : 2 ^ L.2.2.1.toNat < 65536 := Nat.pow_lt_pow_right (n := 16) (show 1 < 2 by decide) (by omega)
        have e2 : gI w5 (19 + 3 * k) 2 = ((L.2.2.1.toNat : Nat) : Int) := by rw [hC.2.2.1]; omega
        rw [hj hd, if_pos rfl, e2, b_ishl_1 _ (by omega), b_ior_n (by omega) (by omega), Nat.or_assoc] at e9
        refine ih (k + 1) w9 (by omega) (by omega) (fun j => ?_) (by rw [e9]; exact F.uI (by simp))
        rw [e9, gI_uI, ht, hmA_app, if_pos hk2]
        by_cases ej : j = hd
        · rw [if_pos ⟨rfl, ej⟩, if_pos ej]
        · rw [if_neg (fun q => ej q.2), if_neg ej, hj j, if_neg ej]
      · refine ih (k + 1) w5 (by omega) (by omega) (fun j => ?_) F
        rw [hj j, ht, hmA_app, if_neg hk2, Nat.or_zero]
    · exact ih k w5 (by omega) hk hj F
theorem s_Bk_addRule {T : Tks} {nb a b hd : Nat} {V P : PL} {tot f : Int × Int} {ato : Int} {R : List Rul} {fc : Nat → Int} {ls : List Lit} {w : Wo} {K : Wo → Prop} (hb : isBk b) (hB : BkC b P (Nf R fc) w) (hR : RlC b R w) (hR30 : R.length < 30) (hro : rsOK R) (hs : CS T nb a V tot f (ls.length : Nat) ato w) (hls : LsC ls w) (hok : lisOK ls) (h6 : ls.length ≤ 6) (hrow : RowC (plan ls ls.length).2.2 w) (hh : gI w 10 2 = (hd : Nat)) (hhd : hd < P.length) (h : ∀ w', BkC b P (Nf (R ++ [((hd : Int), (V.length : Int), tot.1, tot.2, ls)]) fc) w' → RlC b (R ++ [((hd : Int), (V.length : Int), tot.1, tot.2, ls)]) w' → Frm [b + 1, b + 2, b + 3, b + 4, b + 5, b + 6, b + 7, b + 8, b + 9, b + 10, b + 11, b + 12, b + 15, b + 18] [] w w' → K w') : MetV m_Bk_addRule [vr b, vr 9] w K := by
  have bc := bk_c hb
  obtain ⟨b1, b2, b3, b4⟩ := hB
  obtain ⟨c1, -, -, ⟨v1, v2, v3⟩, ⟨o1, o2⟩, -, s1, -⟩ := hs
  have hrl : isRl (b + 1) := by rcases bc with h | h <;> subst h <;> simp [isRl]
  have hlen := rcR_le R hd
  refine met_of (by decide) rfl (Nat.le_of_ble_eq_true rfl) (t_Bk_addRule_0 hb ?_)
  rw [hh, b1, show ((hd : Int)).toNat = hd from rfl]
  refine ⟨fun z => by omega, fun _ => ⟨fun _ => ?_, fun z => by omega⟩⟩
  refine s_Rl_add hrl hR.1 hR30 s1 h6 (fun w1 A1 N1 q1 F1 => ?_)
  have x15 : ∀ j, gI w1 (b + 15) j = gI w (b + 15) j := fun j => F1.1 _ (by simp) j
  have x18 : ∀ j, gI w1 (b + 18) j = gI w (b + 18) j := fun j => F1.1 _ (by simp) j
  rw [x15, (b4 hd hhd).1]
  refine ⟨⟨by omega, by omega⟩, ?_, ⟨by omega, by omega⟩, fun w4 e4 => ?_⟩
  · show inr32 (((rcR R hd : Nat) : Int) + 1)
    exact ⟨by omega, by omega⟩
  have F14 : Frm [b + 15] [] w1 w4 := by rw [e4]; exact Frm.rf.uI (by simp)
  have z4 : gI w4 9 2 = (ls.length : Nat) := by rw [F14.1 9 (by simp <;> omega), F1.1 9 (by simp <;> omega)]; exact s1
  have hls4 : LsC ls w4 := fun i L hi => ((hls i L hi).frm F1 (by have := (List.getElem?_eq_some_iff.mp hi).1; simp; omega) (by simp)).frm F14 (by have := (List.getElem?_eq_some_iff.mp hi).1; simp; omega) (by simp)
  have y18 : ∀ j, gI w4 (b + 18) j = gI w (b + 18) j := fun j => by rw [F14.1 _ (by simp)]; exact x18 j
  have hH := hgR_lt hro hd
  have h0J : ∀ j, gI w4 (b + 18) j = if j = hd then ((hgR R hd ||| hmA (ls.take 0) : Nat) : Int) else gI w4 (b + 18) j := by
    intro j
    rw [y18]
    show _ = if j = hd then ((hgR R hd ||| 0 : Nat) : Int) else _
    rw [Nat.or_zero]
    by_cases ej : j = hd
    · rw [if_pos ej, ej, (b4 hd hhd).2.2.2]; rfl
    · rw [if_neg ej]
  refine l_addR (ls := ls) (w4 := w4) (H := hgR R hd) hb (by omega) hH hok h6 z4 hls4 (fun w' J F => ⟨rfl, ?_⟩) ls.length 0 w4 (by omega) (Nat.zero_le _) h0J Frm.rf
  · have y15 : ∀ j, gI w' (b + 15) j = if j = hd then ((rcR R hd : Nat) : Int) + 1 else gI w (b + 15) j := by
      intro j
      rw [F.1 _ (by simp), e4, gI_uI]
      by_cases ej : j = hd
      · rw [if_pos ⟨rfl, ej⟩, if_pos ej]; rfl
      · rw [if_neg (fun q => ej q.2), if_neg ej]; exact x15 j
    have FT : Frm [b + 1, b + 2, b + 3, b + 4, b + 5, b + 6, b + 7, b + 8, b + 9, b + 10, b + 11, b + 12, b + 15, b + 18] [] w w' := ((F1.sub (by simp) (by simp)).tr (F14.sub (by simp) (by simp))).tr (F.sub (by simp) (by simp))
    have yq : ∀ q, 1 ≤ q → q ≤ 12 → ∀ j, gI w' (b + q) j = gI w1 (b + q) j := fun q h1 h2 j => by rw [F.1 _ (by simp <;> omega), F14.1 _ (by simp <;> omega)]
    refine h w' ⟨?_, b2, fun i x hx => ?_, fun i hi => ?_⟩ ⟨?_, fun i r hr => ?_⟩ FT
    · rw [FT.1 b (by simp)]; exact b1
    · rw [FT.2.1 _ (by simp), FT.1 (b + 14) (by simp)]; exact b3 i x hx
    · obtain ⟨d1, d2, d3, d4⟩ := b4 i hi
      refine ⟨?_, ?_, ?_, ?_⟩
      · show _ = ((rcR (R ++ [_]) i : Nat) : Int)
        rw [rcR_app, y15 i]
        by_cases ej : i = hd
        · subst ej; rw [if_pos rfl, if_pos rfl]; omega
        · rw [if_neg ej, if_neg (by show ¬ (hd : Int) = (i : Int); omega), d1]; rfl
      · rw [FT.1 (b + 16) (by simp)]; exact d2
      · rw [FT.1 (b + 17) (by simp)]; exact d3
      · show _ = ((hgR (R ++ [_]) i : Nat) : Int)
        rw [hgR_app, J i]
        by_cases ej : i = hd
        · subst ej; rw [if_pos rfl, if_pos rfl]
        · rw [if_neg ej, if_neg (by show ¬ (hd : Int) = (i : Int); omega), Nat.or_zero, y18, d4]; rfl
    · rw [yq 1 (by decide) (by decide), N1, List.length_append]; show _ = ((R.length + 1 : Nat) : Int); omega
    · obtain ⟨A6, A7, A8, A9, A10, A11⟩ := A1
      have hB6 : ∀ j, gI w' (b + 7) j = gI w1 (b + 7) j := yq 7 (by decide) (by decide)
      rcases getApp hr with ⟨hi, hr⟩ | ⟨hi, hr2⟩
      · obtain ⟨r1, r2, r3, r4, r5, r6, r7⟩ := hR.2 i r hr
        have ne : i ≠ R.length := by omega
        refine ⟨?_, ?_, ?_, ?_, ?_, fun j L hL => ?_, fun j x hx => ?_⟩
        · rw [yq 2 (by decide) (by decide), q1 1 (by decide) (by decide), if_neg ne]; exact r1
        · rw [yq 3 (by decide) (by decide), q1 2 (by decide) (by decide), if_neg ne]; exact r2
        · rw [yq 4 (by decide) (by decide), q1 3 (by decide) (by decide), if_neg ne]; exact r3
        · rw [yq 5 (by decide) (by decide), q1 4 (by decide) (by decide), if_neg ne]; exact r4
        · rw [yq 6 (by decide) (by decide), q1 5 (by decide) (by decide), if_neg ne]; exact r5
        · have hj := (List.getElem?_eq_some_iff.mp hL).1
          have hl6 := (hro r (List.mem_of_getElem? hr)).2
          have e : ¬ (6 * R.length ≤ 6 * i + j ∧ 6 * i + j < 6 * R.length + ls.length) := by omega
          obtain ⟨t1, t2, t3⟩ := r6 j L hL
          refine ⟨?_, ?_, ?_⟩
          · rw [yq 7 (by decide) (by decide)]; refine (A6 _).trans ?_; rw [if_neg e]; exact t1
          · rw [yq 8 (by decide) (by decide)]; refine (A7 _).trans ?_; rw [if_neg e]; exact t2
          · rw [yq 9 (by decide) (by decide)]; refine (A8 _).trans ?_; rw [if_neg e]; exact t3
        · have hj := (List.getElem?_eq_some_iff.mp hx).1
          obtain ⟨hok2, hl6⟩ := hro r (List.mem_of_getElem? hr)
          have hj2 := (plan_rng hl6 hok2 r.2.2.2.2.length).2.2
          have e : ¬ (6 * R.length ≤ 6 * i + j ∧ 6 * i + j < 6 * R.length + ls.length) := by omega
          obtain ⟨t1, t2, t3⟩ := r7 j x hx
          refine ⟨?_, ?_, ?_⟩
          · rw [yq 10 (by decide) (by decide)]; refine (A9 _).trans ?_; rw [if_neg e]; exact t1
          · rw [yq 11 (by decide) (by decide)]; refine (A10 _).trans ?_; rw [if_neg e]; exact t2
          · rw [yq 12 (by decide) (by decide)]; refine (A11 _).trans ?_; rw [if_neg e]; exact t3
      · subst hi hr2
        refine ⟨?_, ?_, ?_, ?_, ?_, fun j L hL => ?_, fun j x hx => ?_⟩
        · rw [yq 2 (by decide) (by decide), q1 1 (by decide) (by decide), if_pos rfl, if_pos rfl]; exact hh
        · rw [yq 3 (by decide) (by decide), q1 2 (by decide) (by decide), if_pos rfl, if_neg (by decide), if_pos rfl]; exact s1
        · rw [yq 4 (by decide) (by decide), q1 3 (by decide) (by decide), if_pos rfl, if_neg (by decide), if_neg (by decide), if_pos rfl]; exact v1
        · rw [yq 5 (by decide) (by decide), q1 4 (by decide) (by decide), if_pos rfl, if_neg (by decide), if_neg (by decide), if_neg (by decide), if_pos rfl]; exact o1
        · rw [yq 6 (by decide) (by decide), q1 5 (by decide) (by decide), if_pos rfl, if_neg (by decide), if_neg (by decide), if_neg (by decide), if_neg (by decide)]; exact o2
        · have hj := (List.getElem?_eq_some_iff.mp hL).1
          have hC := hls j L hL
          have e : 6 * R.length ≤ 6 * R.length + j ∧ 6 * R.length + j < 6 * R.length + ls.length := ⟨by omega, by have hj : j < ls.length := hj; omega⟩
          refine ⟨?_, ?_, ?_⟩
          · rw [yq 7 (by decide) (by decide)]; refine (A6 _).trans ?_; rw [if_pos e, Nat.add_sub_cancel_left]; exact hC.1
          · rw [yq 8 (by decide) (by decide)]; refine (A7 _).trans ?_; rw [if_pos e, Nat.add_sub_cancel_left]; exact hC.2.2.1
          · rw [yq 9 (by decide) (by decide)]; refine (A8 _).trans ?_; rw [if_pos e, Nat.add_sub_cancel_left]; exact hC.2.1
        · have hj := (List.getElem?_eq_some_iff.mp hx).1
          have hj2 := (plan_rng h6 hok ls.length).2.2
          have e : 6 * R.length ≤ 6 * R.length + j ∧ 6 * R.length + j < 6 * R.length + ls.length := ⟨by omega, by have hj : j < (plan ls ls.length).2.2.length := hj; omega⟩
          have hC := hrow j x hx
          refine ⟨?_, ?_, ?_⟩
          · rw [yq 10 (by decide) (by decide)]; refine (A9 _).trans ?_; rw [if_pos e, Nat.add_sub_cancel_left]; exact hC.1
          · rw [yq 11 (by decide) (by decide)]; refine (A10 _).trans ?_; rw [if_pos e, Nat.add_sub_cancel_left]; exact hC.2.1
          · rw [yq 12 (by decide) (by decide)]; refine (A11 _).trans ?_; rw [if_pos e, Nat.add_sub_cancel_left]; exact hC.2.2
