/-! the class ends a clause -/
theorem s_Bk_addFact {b p : Nat} {P : PL} {N : Nat → Int × Int × Int} {w : Wo} {K : Wo → Prop} (hb : isBk b) (hB : BkC b P N w) (hp : p < P.length) (hr : 0 ≤ (N p).2.1 ∧ (N p).2.1 ≤ 600) (h : ∀ w', BkC b P (fun i => if i = p then ((N i).1, (N i).2.1 + 1, (N i).2.2) else N i) w' → Frm [b + 16] [] w w' → K w') : MetV m_Bk_addFact [vr b, vi (p : Int)] w K := by
  obtain ⟨b1, b2, b3, b4⟩ := hB
  have hN := (b4 p hp).2.1
  refine met_of (by decide) rfl (Nat.le_of_ble_eq_true rfl) (t_Bk_addFact_0 hb ?_)
  rw [b1, show ((p : Int)).toNat = p from rfl, hN]
  refine ⟨fun z => by omega, fun _ => ⟨fun z => by omega, fun _ => ⟨⟨by omega, by omega⟩, ⟨by omega, by omega⟩, ⟨by omega, by omega⟩, fun w3 e3 => ⟨rfl, ?_⟩⟩⟩⟩
  have F : Frm [b + 16] [] w w3 := by rw [e3]; exact Frm.rf.uI (by simp)
  refine h w3 ⟨?_, b2, fun i x hx => ?_, fun i hi => ?_⟩ F
  · rw [F.1 b (by simp)]; exact b1
  · rw [F.2.1 _ (by simp), F.1 _ (by simp)]; exact b3 i x hx
  · obtain ⟨d1, d2, d3, d4⟩ := b4 i hi
    have e15 := F.1 (b + 15) (by simp) i
    have e17 := F.1 (b + 17) (by simp) i
    have e18 := F.1 (b + 18) (by simp) i
    by_cases e : i = p
    · subst e
      simp only [if_pos]
      exact ⟨e15.trans d1, by rw [e3, gI_uI, if_pos ⟨rfl, rfl⟩], e17.trans d3, e18.trans d4⟩
    · simp only [if_neg e]
      exact ⟨e15.trans d1, by rw [e3, gI_uI, if_neg (fun q => e q.2)]; exact d2, e17.trans d3, e18.trans d4⟩
def CS0 (T : Tks) (nb a : Nat) (f : Int × Int) (w : Wo) : Prop := TkC T nb w ∧ a ≤ nb ∧ AtC T a w ∧ gI w 4 4 = f.1 ∧ gI w 4 5 = f.2
theorem CS.c0 {T : Tks} {nb a : Nat} {V : PL} {tot f : Int × Int} {sz ato : Int} {w : Wo} (h : CS T nb a V tot f sz ato w) : CS0 T nb a f w := ⟨h.1, h.2.1, h.2.2.1, h.2.2.2.2.2.1⟩
theorem s_Cl_begin {T : Tks} {nb a : Nat} {f : Int × Int} {p : Int} {w : Wo} {K : Wo → Prop} (hs : CS0 T nb a f w) (h : ∀ w', CS T nb a [] (0, 0) f 0 0 w' → LiC 10 4 p (-1) 0 [] w' → Frm [9, 10] [] w w' → K w') : MetV m_Cl_begin [vr 9, vi p] w K := by
  obtain ⟨⟨t1, t2, t3⟩, ha, ⟨a1, a2, a3, a4⟩, f1, f2⟩ := hs
  refine met_of (by decide) rfl (Nat.le_of_ble_eq_true rfl) (t_Cl_begin_0 (s_Lt_begin (Or.inl rfl) (fun w1 L1 F1 w2 e2 w4 e4 w6 e6 w8 e8 w10 e10 => ⟨rfl, ?_⟩)))
  have F2 : Frm [9] [] w1 w10 := by rw [e10, e8, e6, e4, e2]; exact ((((Frm.rf.uI (by simp)).uI (by simp)).uI (by simp)).uI (by simp)).uI (by simp)
  have F : Frm [9, 10] [] w w10 := (F1.sub (by simp) (by simp)).tr (F2.sub (by simp) (by simp))
  refine h w10 ⟨⟨?_, ?_, fun i hi => ?_⟩, ha, ⟨?_, ?_, ?_, ?_⟩, ⟨?_, by decide, fun i x hx => by cases hx⟩, ⟨?_, ?_⟩, ⟨?_, ?_⟩, ?_, ?_⟩ (L1.frm F2 (by simp) (by simp)) F
  · rw [F.1 5 (by decide)]; exact t1
  · rw [F.1 5 (by decide)]; exact t2
  · rw [F.1 6 (by decide), F.1 7 (by decide), F.2.1 8 (by decide)]; exact t3 i hi
  · rw [F.1 4 (by decide)]; exact a1
  · rw [F.1 4 (by decide)]; exact a2
  · rw [F.1 4 (by decide)]; exact a3
  · rw [F.2.1 4 (by decide)]; exact a4
  · rw [e10, gI_uI, if_pos ⟨rfl, rfl⟩]; rfl
  · rw [e10, gI_uI, if_neg (by omega), e8, gI_uI, if_neg (by omega), e6, gI_uI, if_pos ⟨rfl, rfl⟩]
  · rw [e10, gI_uI, if_neg (by omega), e8, gI_uI, if_pos ⟨rfl, rfl⟩]
  · rw [F.1 4 (by decide)]; exact f1
  · rw [F.1 4 (by decide)]; exact f2
  · rw [e10, gI_uI, if_neg (by omega), e8, gI_uI, if_neg (by omega), e6, gI_uI, if_neg (by omega), e4, gI_uI, if_neg (by omega), e2, gI_uI, if_pos ⟨rfl, rfl⟩]
  · rw [e10, gI_uI, if_neg (by omega), e8, gI_uI, if_neg (by omega), e6, gI_uI, if_neg (by omega), e4, gI_uI, if_pos ⟨rfl, rfl⟩]
theorem s_Cl_openPlace {V : PL} {tot : Int × Int} {w : Wo} {K : Int → Wo → Prop} (hV : VrC V w) (h4 : gI w 9 4 = tot.1) (h5 : gI w 9 5 = tot.2) (h1 : ∀ q, opn V tot = some q → K q w) (h0 : opn V tot = none → K (-1) w) : MetI m_Cl_openPlace [vr 9] w K := by
  obtain ⟨v1, v2, v3⟩ := hV
  refine met_of (by decide) rfl (Nat.le_of_ble_eq_true rfl) (t_Cl_openPlace_0 ?_)
  rw [v1, h4, h5]
  cases V with
  | nil => exact ⟨fun z => absurd rfl z, fun _ => kI (h0 rfl)⟩
  | cons y V =>
    have e := (v3 0 y rfl).2
    rw [e]
    refine ⟨fun _ => ⟨fun z => kI (h1 _ ?_), fun z => kI (h1 _ ?_)⟩, fun z => absurd z (by show ¬ ((V.length + 1 : Nat) : Int) = 0; omega)⟩
    · show some (if tot.1 ≤ 0 then y.2 else _) = _
      rw [if_pos z]
    · show some (if tot.1 ≤ 0 then y.2 else _) = _
      rw [if_neg z]
theorem s_Rd_readBody {T : Tks} {nb a b n : Nat} {V P : PL} {tot f : Int × Int} {N : Nat → Int × Int × Int} {w : Wo} {K : Int → Wo → Prop} (hT : TOk T nb) (hb : isBk b) (hs : CS T nb a V tot f 0 0 w) (hbt : gP w 4 3 = b) (hB : BkC b P N w) (hz : ∀ p, P.length ≤ p → N p = (0, 0, 0)) (hsz : ∀ x ∈ P, 1 ≤ x.2) (hn : gI w (b + 1) 0 = (n : Nat))
    (hd : tK T a = 8 → K 1 w)
    (h1 : tK T a = 11 → n < 30 → ∀ s' a' w', pBody T tot 6 ([], P, V, 0, f) (a + 1) = .inr (s', a') → tK T a' = 8 → lsOK s'.1 → s'.1.length ≤ 6 → 1 ≤ s'.1.length → CS T nb a' s'.2.2.1 tot s'.2.2.2.2 (s'.1.length : Nat) (s'.2.2.2.1 : Nat) w' → BkC b s'.2.1 N w' → LsC s'.1 w' → FD b w w' → K 1 w')
    (h0 : tK T a = 11 → n < 30 → ∀ q w', pBody T tot 6 ([], P, V, 0, f) (a + 1) = .inl q → FP q w' → FD b w w' → K 0 w')
    (h2 : tK T a = 11 → ¬ n < 30 → ∀ w', FP (gI w 10 1) w' → Frm [4] [4] w w' → K 0 w')
    (h3 : tK T a ≠ 8 → tK T a ≠ 11 → ∀ w', FP (tP T a) w' → Frm [4] [4] w w' → K 0 w') : MetI m_Rd_readBody [vr 4] w K := by
  obtain ⟨a1, a2, a3, a4⟩ := hs.2.2.1
  have go : tK T a = 11 → n < 30 → ∀ w1, CS T nb (a + 1) V tot f 0 0 w1 → Frm [4] [4] w w1 → Wp m_Rd_readBody 63 [(0, vr 4), (1, vi 0)] [] (0, 0) w1 (fun r w' => ∃ y, r = some (vi y) ∧ K y w') := by
    intro h11 hn30 w1 c1 F1
    have bc := bk_c hb
    refine l_body (N := N) hT hb 6 ([], P, V, 0, f) (a + 1) w1 rfl c1 (by rw [F1.2.2]; exact hbt) (hB.frm F1 (by simp <;> omega) (by simp <;> omega)) hz hsz (fun i L hi => by cases hi) (fun L hL => by cases hL) (fun s' a' w' e8 e9 e10 e11 e12 c cB cL F => h1 h11 hn30 s' a' w' e8 e9 e10 e11 e12 c cB cL ((FD.a F1).tr F)) (fun q w' e p F => h0 h11 hn30 q w' e p ((FD.a F1).tr F))
  refine met_of (by decide) rfl (Nat.le_of_ble_eq_true rfl) (t_Rd_readBody_0 ?_)
  rw [a2, hbt, hn]
  refine ⟨fun z => ⟨fun z2 => ?_, fun z2 => ⟨hb, fun z3 => ?_, fun z3 => ?_⟩⟩, fun z => kI (hd z)⟩
  · exact s_Rd_take hT hs (by decide) (fun q => absurd q z2) (fun _ w' p F => ⟨fun q => absurd rfl q, fun _ => kI (h3 z z2 w' p F)⟩)
  · exact s_Rd_take hT hs (by decide) (fun _ w' c F => ⟨fun _ => go z2 (by omega) w' c F, fun q => absurd q (by decide)⟩) (fun q => absurd z2 q)
  · exact s_Rd_refuse (fun w' p F => ⟨Or.inl rfl, kI (h2 z2 (by omega) w' p F)⟩)
abbrev FE (b : Nat) (w w' : Wo) : Prop := Frm [4, 16, 17, 18, b + 1, b + 2, b + 3, b + 4, b + 5, b + 6, b + 7, b + 8, b + 9, b + 10, b + 11, b + 12, b + 15, b + 18] [4] w w'
theorem s_Rd_endRule {T : Tks} {nb a b hd : Nat} {V P : PL} {tot f : Int × Int} {ato : Int} {R : List Rul} {fc : Nat → Int} {ls : List Lit} {w : Wo} {K : Int → Wo → Prop} (hT : TOk T nb) (hb : isBk b) (hbt : gP w 4 3 = b) (hB : BkC b P (Nf R fc) w) (hR : RlC b R w) (hR30 : R.length < 30) (hro : rsOK R) (hs : CS T nb a V tot f (ls.length : Nat) ato w) (hls : LsC ls w) (hok : lisOK ls) (h6 : ls.length ≤ 6) (hh : gI w 10 2 = (hd : Nat)) (hhd : hd < P.length) (h8 : tK T a = 8) (h : ∀ w', CS T nb (a + 1) V tot (ntU f (ubd V (plan ls ls.length).1)) (ls.length : Nat) ato w' → BkC b P (Nf (R ++ [((hd : Int), (V.length : Int), tot.1, tot.2, ls)]) fc) w' → RlC b (R ++ [((hd : Int), (V.length : Int), tot.1, tot.2, ls)]) w' → FE b w w' → K 1 w') : MetI m_Rd_endRule [vr 4] w K := by
  have bc := bk_c hb
  have lr : ∀ i L, ls[i]? = some L → i < 6 := fun i L hi => by have := (List.getElem?_eq_some_iff.mp hi).1; omega
  have go : ∀ w1 f1, CS T nb a V tot f1 (ls.length : Nat) ato w1 → f1 = ntU f (ubd V (plan ls ls.length).1) → RowC (plan ls ls.length).2.2 w1 → Frm [4, 16, 17, 18] [4] w w1 → Wp m_Rd_endRule 19 [(0, vr 4)] [] (0, 0) w1 (fun r w' => ∃ y, r = some (vi y) ∧ K y w') := by
    intro w1 f1 c1 ef r1 F1
    have hbt1 : gP w1 4 3 = b := by rw [F1.2.2]; exact hbt
    refine t_Rd_endRule_19 ?_
    rw [hbt1]
    refine ⟨hb, s_Bk_addRule hb (hB.frm F1 (by simp <;> omega) (by simp <;> omega)) (hR.frm F1 (fun q h1 h2 => by simp <;> omega)) hR30 hro c1 (fun i L hi => (hls i L hi).frm F1 (by have := lr i L hi; simp; omega) (by have := lr i L hi; simp; omega)) hok h6 r1 (by rw [F1.1 10 (by simp)]; exact hh) hhd (fun w2 B2 R2 F2 => ?_)⟩
    refine s_Rd_take hT (c1.frm F2 (by simp <;> omega) (by simp)) (by decide) (fun _ w3 c3 F3 => ⟨Or.inr rfl, kI (h w3 (ef ▸ c3) (B2.frm F3 (by simp <;> omega) (by simp <;> omega)) (R2.frm F3 (fun q h1 h2 => by simp <;> omega)) (((F1.sub (by simp) (by simp)).tr (F2.sub (by simp) (by simp))).tr (F3.sub (by simp) (by simp))))⟩) (fun q => absurd h8 q)
  refine met_of (by decide) rfl (Nat.le_of_ble_eq_true rfl) (t_Rd_endRule_0 (s_Cl_plan hs h6 hls hok (fun w1 r1 F1 => ?_)))
  have c1 := hs.frm F1 (by simp) (by simp)
  refine ⟨fun z => go w1 f c1 (if_pos z).symm r1 (F1.sub (by simp) (by simp)), fun z => s_Rd_note c1 (fun w2 c2 F2 => go w2 _ c2 (if_neg z).symm (fun i x hx => ?_) ((F1.sub (by simp) (by simp)).tr (F2.sub (by simp) (by simp))))⟩
  rw [F2.1 16 (by simp), F2.1 17 (by simp), F2.1 18 (by simp)]
  exact r1 i x hx
def FcC (F : List Fct) (f : Int × Int) (a : Nat) (w : Wo) : Prop := ∃ n : Nat, gI w 37 2 = n ∧ 5 * n ≤ a ∧ (f.1 = 0 → n = F.length ∧ ∀ i x, F[i]? = some x → gI w 38 i = x.1 ∧ ∀ k t, x.2[k]? = some t → gJ w 39 (4 * i + k) = t)
theorem FcC.frm {F : List Fct} {f : Int × Int} {a : Nat} {w w' : Wo} {A B : List Nat} (h : FcC F f a w) (hf : Frm A B w w') (hA : 37 ∉ A ∧ 38 ∉ A) (hB : 39 ∉ B) : FcC F f a w' := by
  obtain ⟨n, h1, h2, h3⟩ := h
  refine ⟨n, by rw [hf.1 37 hA.1]; exact h1, h2, fun q => ?_⟩
  obtain ⟨h4, h5⟩ := h3 q
  refine ⟨h4, fun i x hx => ?_⟩
  obtain ⟨h6, h7⟩ := h5 i x hx
  exact ⟨by rw [hf.1 38 hA.2]; exact h6, fun k t ht => by rw [hf.2.1 39 hB]; exact h7 k t ht⟩
theorem ext_at {x y : List Int} (hl : x.length = y.length) (h : ∀ (k : Nat) (t : Int), x[k]? = some t → y[k]? = some t) : x = y := by
  apply List.ext_getElem? 
  intro i
  cases e : x[i]? with
  | none =>
    have := List.getElem?_eq_none_iff.mp e
    exact (List.getElem?_eq_none_iff.mpr (by omega)).symm
  | some t => exact (h i t e).symm
theorem s_Rd_endFact {T : Tks} {nb a b hd A : Nat} {V P : PL} {tot f : Int × Int} {sz ato k p eq : Int} {R : List Rul} {F : List Fct} {fc : Nat → Int} {ar : List Int} {w : Wo} {K : Int → Wo → Prop} (hT : TOk T nb) (hb : isBk b) (hbt : gP w 4 3 = b) (hB : BkC b P (Nf R fc) w) (hs : CS T nb a V tot f sz ato w) (hL : LiC 10 k p (hd : Nat) eq ar w) (hhd : hd < P.length) (hfc : 0 ≤ fc hd ∧ fc hd ≤ 600) (hF : FcC F f A w) (hA : A + 5 ≤ 600) (hlen : f.1 = 0 → ∀ x ∈ F, x.2.length ≤ 4 ∧ (x.1 = (hd : Int) → x.2.length = ar.length)) (h8 : tK T a = 8) (hq : ∀ q, opn V tot = some q → q ≠ -1)
    (h0 : ∀ q w', opn V tot = some q → FP q w' → Frm [4] [4] w w' → K 0 w')
    (h1 : opn V tot = none → ∀ w' fc', CS T nb (a + 1) V tot f sz ato w' → BkC b P (Nf R fc') w' → (∀ p, p ≠ hd → fc' p = fc p) → (fc' hd = fc hd ∨ fc' hd = fc hd + 1) → (f.1 = 0 → (∀ p, fc p = (fcR F p : Nat)) → ∀ p, fc' p = (fcR (adF F ((hd : Int), ar)) p : Nat)) → FcC (adF F ((hd : Int), ar)) f (A + 5) w' → Frm [4, 37, 38, b + 16] [4, 39] w w' → K 1 w') : MetI m_Rd_endFact [vr 4] w K := by
  have bc := bk_c hb
  obtain ⟨n, n1, n2, n3⟩ := hF
  obtain ⟨l0, l1, l2, l3, l4, l5, l6⟩ := id hL
  have hV := hs.2.2.2.1
  obtain ⟨o1, o2⟩ := hs.2.2.2.2.1
  refine met_of (by decide) rfl (Nat.le_of_ble_eq_true rfl) (t_Rd_endFact_0 (s_Cl_openPlace hV o1 o2 (fun q e => ⟨fun z => absurd z (hq q e), fun _ => s_Rd_refuse (fun w' p' F' => ⟨Or.inl rfl, kI (h0 q w' e p' F')⟩)⟩) (fun e => ⟨fun _ => ?_, fun z => absurd rfl z⟩)))
  have isame : f.1 = 0 → ((∃ i, i < n ∧ gI w 38 i = gI w 10 2 ∧ sameF w 10 i ar.length) ↔ ((hd : Int), ar) ∈ F) := by
    intro hf
    obtain ⟨en, hc⟩ := n3 hf
    constructor
    · intro ⟨i, hi, e1, e2⟩
      obtain ⟨x, hx⟩ : ∃ x, F[i]? = some x := ⟨_, List.getElem?_eq_getElem (by omega)⟩
      obtain ⟨c1, c2⟩ := hc i x hx
      have hxm := List.mem_of_getElem? hx
      have hx1 : x.1 = (hd : Int) := by rw [← c1, e1, l2]
      have hx2 := (hlen hf x hxm).2 hx1
      have hxe : x.2 = ar := by
        refine ext_at hx2 (fun j t ht => ?_)
        have hj := (List.getElem?_eq_some_iff.mp ht).1
        obtain ⟨u, hu⟩ : ∃ u, ar[j]? = some u := ⟨_, List.getElem?_eq_getElem (by omega)⟩
        have q1 := c2 j t ht
        have q2 := e2 j (by omega)
        have q3 := (l6 j u hu).1
        rw [hu, ← q3, ← q2, q1]
      have : x = ((hd : Int), ar) := by rw [← hx1, ← hxe]
      rw [← this]; exact hxm
    · intro hm
      obtain ⟨i, hi⟩ := List.getElem?_of_mem hm
      obtain ⟨c1, c2⟩ := hc i _ hi
      refine ⟨i, by have := (List.getElem?_eq_some_iff.mp hi).1; omega, by rw [c1, l2], fun j hj => ?_⟩
      obtain ⟨u, hu⟩ : ∃ u, ar[j]? = some u := ⟨_, List.getElem?_eq_getElem hj⟩
      rw [c2 j u hu, (l6 j u hu).1]
  refine s_Fc_add (Or.inl rfl) n1 (by omega) l4 l5 (fun hex => ⟨fun _ => ?_, fun q => absurd rfl q⟩) (fun hno w3 g1 g2 g3 F3 => ⟨fun q => absurd q (by decide), fun _ => ?_⟩)
  · refine s_Rd_take hT hs (by decide) (fun _ w5 c5 F5 => ⟨Or.inr rfl, kI (h1 e w5 fc c5 (hB.frm F5 (by simp <;> omega) (by simp <;> omega)) (fun _ _ => rfl) (Or.inl rfl) (fun hf hall q => ?_) ?_ (F5.sub (by simp) (by simp)))⟩) (fun q => absurd h8 q)
    · rw [adF, if_pos ((isame hf).mp hex)]; exact hall q
    · refine FcC.frm (w := w) ⟨n, n1, by omega, fun hf => ?_⟩ F5 (by simp) (by simp)
      rw [adF, if_pos ((isame hf).mp hex)]; exact n3 hf
  · have hbt3 : gP w3 4 3 = b := by rw [F3.2.2]; exact hbt
    have a3 : gI w3 10 2 = (hd : Nat) := by rw [F3.1 10 (by simp)]; exact l2
    rw [hbt3, a3]
    refine ⟨hb, s_Bk_addFact hb (hB.frm F3 (by clear hno isame; simp <;> omega) (by clear hno isame; simp <;> omega)) hhd hfc (fun w8 B8 F8 => ?_)⟩
    refine s_Rd_take hT ((hs.frm F3 (by simp) (by simp)).frm F8 (by clear hno isame; simp <;> omega) (by simp)) (by decide) (fun _ w9 c9 F9 => ⟨Or.inr rfl, kI (h1 e w9 (fun i => if i = hd then fc i + 1 else fc i) c9 ?_ (fun q hq => if_neg hq) (Or.inr (if_pos rfl)) (fun hf hall q => ?_) ?_ (((F3.sub (by simp) (by simp)).tr (F8.sub (by simp) (by simp))).tr (F9.sub (by simp) (by simp))))⟩) (fun q => absurd h8 q)
    · refine BkC.frm ?_ F9 (by clear hno isame; simp <;> omega) (by clear hno isame; simp <;> omega)
      refine ⟨B8.1, B8.2.1, B8.2.2.1, fun i hi => ?_⟩
      have := B8.2.2.2 i hi
      by_cases ei : i = hd
      · simp only [if_pos ei] at this
        obtain ⟨d1, d2, d3, d4⟩ := this
        refine ⟨d1, ?_, d3, d4⟩
        show _ = if i = hd then fc i + 1 else fc i
        rw [if_pos ei]; exact d2
      · simp only [if_neg ei] at this
        obtain ⟨d1, d2, d3, d4⟩ := this
        refine ⟨d1, ?_, d3, d4⟩
        show _ = if i = hd then fc i + 1 else fc i
        rw [if_neg ei]; exact d2
    · rw [adF, if_neg (fun q => hno ((isame hf).mpr q)), fcR_app]
      show (if q = hd then fc q + 1 else fc q) = ((fcR F q + (if (hd : Int) = (q : Int) then 1 else 0) : Nat) : Int)
      by_cases eq : q = hd
      · rw [if_pos eq, if_pos (by omega), hall q]; omega
      · rw [if_neg eq, if_neg (by omega), hall q]; omega
    · refine FcC.frm (w := w3) ⟨n + 1, by rw [g1]; omega, by omega, fun hf => ?_⟩ ((F8.sub (A' := [4, b + 16]) (B' := [4]) (by simp) (by simp)).tr (F9.sub (by simp) (by simp))) (by clear hno isame; simp <;> omega) (by simp)
      obtain ⟨en, hc⟩ := n3 hf
      rw [adF, if_neg (fun q => hno ((isame hf).mpr q)), List.length_append]
      refine ⟨by show n + 1 = F.length + 1; omega, fun i x hx => ?_⟩
      rcases getApp hx with ⟨hi, hx⟩ | ⟨hi, hx⟩
      · obtain ⟨c1, c2⟩ := hc i x hx
        refine ⟨by rw [g2, if_neg (by omega)]; exact c1, fun j t ht => ?_⟩
        rw [g3, if_neg ?_]
        · exact c2 j t ht
        · have hj := (List.getElem?_eq_some_iff.mp ht).1
          have := n3 hf
          have hx4 := (hlen hf x (List.mem_of_getElem? hx)).1
          omega
      · subst hx
        refine ⟨by rw [g2, if_pos (by omega)]; exact l2, fun j t ht => ?_⟩
        have hj : j < ar.length := (List.getElem?_eq_some_iff.mp ht).1
        rw [g3, if_pos (by omega), show 4 * i + j - 4 * n = j by omega]
        exact (l6 j t ht).1
