/-! the class's reader: its state, its leaves -/
def TkC (T : Tks) (nb : Nat) (w : Wo) : Prop := (nb : Int) < gI w 5 3 ∧ gI w 5 3 ≤ 601 ∧ ∀ i, i ≤ nb → gI w 6 i = tK T i ∧ gI w 7 i = tP T i ∧ gJ w 8 i = tV T i
def AtC (T : Tks) (a : Nat) (w : Wo) : Prop := gI w 4 6 = a ∧ gI w 4 7 = tK T a ∧ gI w 4 8 = tP T a ∧ gJ w 4 9 = tV T a
def VrC (V : PL) (w : Wo) : Prop := gI w 9 6 = V.length ∧ V.length ≤ 8 ∧ ∀ i x, V[i]? = some x → gJ w 14 i = x.1 ∧ gI w 15 i = x.2
def CS (T : Tks) (nb a : Nat) (V : PL) (tot f : Int × Int) (sz ato : Int) (w : Wo) : Prop := TkC T nb w ∧ a ≤ nb ∧ AtC T a w ∧ VrC V w ∧ (gI w 9 4 = tot.1 ∧ gI w 9 5 = tot.2) ∧ (gI w 4 4 = f.1 ∧ gI w 4 5 = f.2) ∧ gI w 9 2 = sz ∧ gI w 9 3 = ato
theorem CS.frm {T : Tks} {nb a : Nat} {V : PL} {tot f : Int × Int} {sz ato : Int} {w w' : Wo} {A B : List Nat} (h : CS T nb a V tot f sz ato w) (hf : Frm A B w w') (hA : 4 ∉ A ∧ 5 ∉ A ∧ 6 ∉ A ∧ 7 ∉ A ∧ 9 ∉ A ∧ 15 ∉ A) (hB : 4 ∉ B ∧ 8 ∉ B ∧ 14 ∉ B) : CS T nb a V tot f sz ato w' := by
  obtain ⟨⟨t1, t2, t3⟩, ha, ⟨a1, a2, a3, a4⟩, ⟨v1, v2, v3⟩, ⟨o1, o2⟩, ⟨f1, f2⟩, s1, s2⟩ := h
  obtain ⟨h4, h5, h6, h7, h9, h15⟩ := hA
  obtain ⟨j4, j8, j14⟩ := hB
  refine ⟨⟨?_, ?_, fun i hi => ?_⟩, ha, ⟨?_, ?_, ?_, ?_⟩, ⟨?_, v2, fun i x hx => ?_⟩, ⟨?_, ?_⟩, ⟨?_, ?_⟩, ?_, ?_⟩
  · rw [hf.1 5 h5]; exact t1
  · rw [hf.1 5 h5]; exact t2
  · rw [hf.1 6 h6, hf.1 7 h7, hf.2.1 8 j8]; exact t3 i hi
  · rw [hf.1 4 h4]; exact a1
  · rw [hf.1 4 h4]; exact a2
  · rw [hf.1 4 h4]; exact a3
  · rw [hf.2.1 4 j4]; exact a4
  · rw [hf.1 9 h9]; exact v1
  · rw [hf.2.1 14 j14, hf.1 15 h15]; exact v3 i x hx
  · rw [hf.1 9 h9]; exact o1
  · rw [hf.1 9 h9]; exact o2
  · rw [hf.1 4 h4]; exact f1
  · rw [hf.1 4 h4]; exact f2
  · rw [hf.1 9 h9]; exact s1
  · rw [hf.1 9 h9]; exact s2
/-- a fault of kind 1 at p -/
def FP (p : Int) (w : Wo) : Prop := gI w 4 4 = 1 ∧ gI w 4 5 = p
theorem s_Rd_moveTo {T : Tks} {nb a j : Nat} {V : PL} {tot f : Int × Int} {sz ato : Int} {w : Wo} {K : Wo → Prop} (hs : CS T nb a V tot f sz ato w) (hj : j ≤ nb) (h : ∀ w', CS T nb j V tot f sz ato w' → Frm [4] [4] w w' → K w') : MetV m_Rd_moveTo [vr 4, vi (j : Int)] w K := by
  obtain ⟨⟨t1, t2, t3⟩, ha, ⟨a1, a2, a3, a4⟩, ⟨v1, v2, v3⟩, ⟨o1, o2⟩, ⟨f1, f2⟩, s1, s2⟩ := hs
  obtain ⟨b1, b2, b3⟩ := t3 j hj
  refine met_of (by decide) rfl (Nat.le_of_ble_eq_true rfl) (t_Rd_moveTo_0 ⟨fun z => by omega, fun _ => ⟨fun z => by omega, fun _ w1 e1 => ⟨⟨by omega, by omega⟩, fun w4 e4 => ⟨⟨by omega, by omega⟩, fun w7 e7 => ⟨⟨by omega, by omega⟩, fun w10 e10 => ⟨rfl, ?_⟩⟩⟩⟩⟩⟩)
  have hf : Frm [4] [4] w w10 := by
    rw [e10, e7, e4, e1]
    exact (((Frm.rf.uI (by decide)).uI (by decide)).uI (by decide)).uJ (by decide)
  have n4 : ∀ k, k ≠ 6 → k ≠ 7 → k ≠ 8 → gI w10 4 k = gI w 4 k := by
    intro k h6 h7 h8
    rw [e10, gI_uJ, e7, gI_uI, if_neg (by omega), e4, gI_uI, if_neg (by omega), e1, gI_uI, if_neg (by omega)]
  have x6 : gI w1 6 (j : Int).toNat = tK T j := by rw [e1, gI_uI, if_neg (by omega)]; exact b1
  have x7 : gI w4 7 (j : Int).toNat = tP T j := by rw [e4, gI_uI, if_neg (by omega), e1, gI_uI, if_neg (by omega)]; exact b2
  have x8 : gJ w7 8 (j : Int).toNat = tV T j := by rw [e7, gJ_uI, e4, gJ_uI, e1, gJ_uI]; exact b3
  refine h w10 ⟨⟨?_, ?_, fun i hi => ?_⟩, hj, ⟨?_, ?_, ?_, ?_⟩, ⟨?_, v2, fun i x hx => ?_⟩, ⟨?_, ?_⟩, ⟨?_, ?_⟩, ?_, ?_⟩ hf
  · rw [hf.1 5 (by decide)]; exact t1
  · rw [hf.1 5 (by decide)]; exact t2
  · rw [hf.1 6 (by decide), hf.1 7 (by decide), hf.2.1 8 (by decide)]; exact t3 i hi
  · rw [e10, gI_uJ, e7, gI_uI, if_neg (by omega), e4, gI_uI, if_neg (by omega), e1, gI_uI, if_pos ⟨rfl, rfl⟩]
  · rw [e10, gI_uJ, e7, gI_uI, if_neg (by omega), e4, gI_uI, if_pos ⟨rfl, rfl⟩, x6]
  · rw [e10, gI_uJ, e7, gI_uI, if_pos ⟨rfl, rfl⟩, x7]
  · rw [e10, gJ_uJ, if_pos ⟨rfl, rfl⟩, x8]
  · rw [hf.1 9 (by decide)]; exact v1
  · rw [hf.2.1 14 (by decide), hf.1 15 (by decide)]; exact v3 i x hx
  · rw [hf.1 9 (by decide)]; exact o1
  · rw [hf.1 9 (by decide)]; exact o2
  · rw [n4 4 (by decide) (by decide) (by decide)]; exact f1
  · rw [n4 5 (by decide) (by decide) (by decide)]; exact f2
  · rw [hf.1 9 (by decide)]; exact s1
  · rw [hf.1 9 (by decide)]; exact s2
theorem s_Rd_refuse {w : Wo} {x : Int} {K : Int → Wo → Prop} (h : ∀ w', FP x w' → Frm [4] [4] w w' → K 0 w') : MetI m_Rd_refuse [vr 4, vi x] w K := by
  refine met_of (by decide) rfl (Nat.le_of_ble_eq_true rfl) (t_Rd_refuse_0 (fun w1 e1 w3 e3 => kI (h w3 ⟨?_, ?_⟩ ?_)))
  · rw [e3, gI_uI, if_neg (by omega), e1, gI_uI, if_pos ⟨rfl, rfl⟩]
  · rw [e3, gI_uI, if_pos ⟨rfl, rfl⟩]
  · rw [e3, e1]; exact (Frm.rf.uI (by decide)).uI (by decide)
theorem s_Rd_note {T : Tks} {nb a : Nat} {V : PL} {tot f : Int × Int} {sz ato : Int} {w : Wo} {k p : Int} {K : Wo → Prop} (hs : CS T nb a V tot f sz ato w) (h : ∀ w', CS T nb a V tot (nt f k p) sz ato w' → Frm [4] [4] w w' → K w') : MetV m_Rd_note [vr 4, vi k, vi p] w K := by
  obtain ⟨⟨t1, t2, t3⟩, ha, ⟨a1, a2, a3, a4⟩, ⟨v1, v2, v3⟩, ⟨o1, o2⟩, ⟨f1, f2⟩, s1, s2⟩ := id hs
  have st : (f.1 = 0 ∨ p < f.2) → ∀ w1, w1 = uI w 4 4 k → ∀ w3, w3 = uI w1 4 5 p → K w3 := by
    intro hc w1 e1 w3 e3
    have hf : Frm [4] [4] w w3 := by rw [e3, e1]; exact (Frm.rf.uI (by decide)).uI (by decide)
    have n4 : ∀ k, k ≠ 4 → k ≠ 5 → gI w3 4 k = gI w 4 k := by
      intro k h6 h7
      rw [e3, gI_uI, if_neg (by omega), e1, gI_uI, if_neg (by omega)]
    refine h w3 ⟨⟨?_, ?_, fun i hi => ?_⟩, ha, ⟨?_, ?_, ?_, ?_⟩, ⟨?_, v2, fun i x hx => ?_⟩, ⟨?_, ?_⟩, ⟨?_, ?_⟩, ?_, ?_⟩ hf
    · rw [hf.1 5 (by decide)]; exact t1
    · rw [hf.1 5 (by decide)]; exact t2
    · rw [hf.1 6 (by decide), hf.1 7 (by decide), hf.2.1 8 (by decide)]; exact t3 i hi
    · rw [n4 6 (by decide) (by decide)]; exact a1
    · rw [n4 7 (by decide) (by decide)]; exact a2
    · rw [n4 8 (by decide) (by decide)]; exact a3
    · rw [e3, gJ_uI, e1, gJ_uI]; exact a4
    · rw [hf.1 9 (by decide)]; exact v1
    · rw [hf.2.1 14 (by decide), hf.1 15 (by decide)]; exact v3 i x hx
    · rw [hf.1 9 (by decide)]; exact o1
    · rw [hf.1 9 (by decide)]; exact o2
    · unfold nt; rw [if_pos hc, e3, gI_uI, if_neg (by omega), e1, gI_uI, if_pos ⟨rfl, rfl⟩]
    · unfold nt; rw [if_pos hc, e3, gI_uI, if_pos ⟨rfl, rfl⟩]
    · rw [hf.1 9 (by decide)]; exact s1
    · rw [hf.1 9 (by decide)]; exact s2
  refine met_of (by decide) rfl (Nat.le_of_ble_eq_true rfl) (t_Rd_note_0 ⟨fun z w1 e1 w3 e3 => ⟨rfl, st (Or.inl (by omega)) w1 e1 w3 e3⟩, fun z => ⟨fun z2 => ⟨rfl, ?_⟩, fun z2 w5 e5 w7 e7 => ⟨rfl, st (Or.inr (by omega)) w5 e5 w7 e7⟩⟩⟩)
  have e : nt f k p = f := if_neg (by omega)
  rw [e] at h
  exact h w hs Frm.rf
theorem s_Rd_take {T : Tks} {nb a : Nat} {V : PL} {tot f : Int × Int} {sz ato : Int} {w : Wo} {k : Int} {K : Int → Wo → Prop} (hT : TOk T nb) (hs : CS T nb a V tot f sz ato w) (hk : 1 < k) (h1 : tK T a = k → ∀ w', CS T nb (a + 1) V tot f sz ato w' → Frm [4] [4] w w' → K 1 w') (h0 : tK T a ≠ k → ∀ w', FP (tP T a) w' → Frm [4] [4] w w' → K 0 w') : MetI m_Rd_take [vr 4, vi k] w K := by
  have h600 := hT.1
  have ha := hs.2.1
  obtain ⟨a1, a2, a3, a4⟩ := hs.2.2.1
  refine met_of (by decide) rfl (Nat.le_of_ble_eq_true rfl) (t_Rd_take_0 ⟨fun z => ⟨by rw [a1]; exact ⟨by omega, by omega⟩, ?_⟩, fun z => ?_⟩)
  · rw [a2] at z
    have hlt := hT.lt ha (by omega) (by omega)
    rw [a1]
    exact s_Rd_moveTo (j := a + 1) hs (by omega) (fun w' c f => kI (h1 z w' c f))
  · rw [a2] at z
    rw [a3]
    exact s_Rd_refuse (fun w' c f => ⟨Or.inl rfl, kI (h0 z w' c f)⟩)
def tmOK (t : Int) : Prop := (-1000000000 < t ∧ t < 1000000000) ∨ (17592186044416 ≤ t ∧ t < 21990232555520) ∨ (281474976710656 ≤ t ∧ t < 281474976710664) ∨ t = 4503599627370496
/-- a term's variable, as a set -/
def vb (x : Int) : Int := if 281474976710656 ≤ x ∧ x < 4503599627370496 then ((2 ^ (x - 281474976710656).toNat : Nat) : Int) else 0
def LiC (l : Nat) (k p ask eq : Int) (ar : List Int) (w : Wo) : Prop := gI w l 0 = k ∧ gI w l 1 = p ∧ gI w l 2 = ask ∧ gI w l 3 = eq ∧ gI w l 4 = ar.length ∧ ar.length ≤ 4 ∧ ∀ i x, ar[i]? = some x → gJ w (l + 1) i = x ∧ gI w (l + 2) i = vb x
theorem LiC.frm {l : Nat} {k p ask eq : Int} {ar : List Int} {w w' : Wo} {A B : List Nat} (h : LiC l k p ask eq ar w) (hf : Frm A B w w') (hA : l ∉ A ∧ l + 2 ∉ A) (hB : l + 1 ∉ B) : LiC l k p ask eq ar w' := by
  obtain ⟨h0, h1, h2, h3, h4, h5, h6⟩ := h
  obtain ⟨x0, x2⟩ := hA
  refine ⟨?_, ?_, ?_, ?_, ?_, h5, fun i x hx => ?_⟩
  · rw [hf.1 l x0]; exact h0
  · rw [hf.1 l x0]; exact h1
  · rw [hf.1 l x0]; exact h2
  · rw [hf.1 l x0]; exact h3
  · rw [hf.1 l x0]; exact h4
  · rw [hf.2.1 _ hB, hf.1 _ x2]; exact h6 i x hx
theorem s_Lt_begin {l : Nat} {k p : Int} {w : Wo} {K : Wo → Prop} (hl : isLt l) (h : ∀ w', LiC l k p (-1) 0 [] w' → Frm [l] [] w w' → K w') : MetV m_Lt_begin [vr l, vi k, vi p] w K := by
  refine met_of (by decide) rfl (Nat.le_of_ble_eq_true rfl) (t_Lt_begin_0 hl (fun w1 e1 w3 e3 w5 e5 w7 e7 w9 e9 => ⟨rfl, h w9 ⟨?_, ?_, ?_, ?_, ?_, by decide, fun i x hx => by simp at hx⟩ ?_⟩))
  · rw [e9, gI_uI, if_neg (by omega), e7, gI_uI, if_neg (by omega), e5, gI_uI, if_neg (by omega), e3, gI_uI, if_neg (by omega), e1, gI_uI, if_pos ⟨rfl, rfl⟩]
  · rw [e9, gI_uI, if_neg (by omega), e7, gI_uI, if_neg (by omega), e5, gI_uI, if_neg (by omega), e3, gI_uI, if_pos ⟨rfl, rfl⟩]
  · rw [e9, gI_uI, if_neg (by omega), e7, gI_uI, if_neg (by omega), e5, gI_uI, if_pos ⟨rfl, rfl⟩]
  · rw [e9, gI_uI, if_neg (by omega), e7, gI_uI, if_pos ⟨rfl, rfl⟩]
  · rw [e9, gI_uI, if_pos ⟨rfl, rfl⟩]; rfl
  · rw [e9, e7, e5, e3, e1]
    exact ((((Frm.rf.uI (List.mem_singleton.mpr rfl)).uI (List.mem_singleton.mpr rfl)).uI (List.mem_singleton.mpr rfl)).uI (List.mem_singleton.mpr rfl)).uI (List.mem_singleton.mpr rfl)
theorem lcmpL {x y : Int} : b_lcmp x y < 0 ↔ x < y := by
  unfold b_lcmp
  split
  · exact ⟨fun z => absurd z (by decide), fun _ => by omega⟩
  · split
    · exact ⟨fun z => absurd z (by decide), fun _ => by omega⟩
    · exact ⟨fun _ => by omega, fun _ => by decide⟩
theorem lcmpG {x y : Int} : 0 ≤ b_lcmp x y ↔ y ≤ x := by
  unfold b_lcmp
  split
  · exact ⟨fun _ => by omega, fun _ => by decide⟩
  · split
    · exact ⟨fun _ => by omega, fun _ => by decide⟩
    · exact ⟨fun z => absurd z (by decide), fun _ => by omega⟩
theorem shl8 : ∀ n : Nat, n < 8 → b_ishl 1 (b_l2i (n : Int)) = ((2 ^ n : Nat) : Int) := by decide +kernel
theorem s_Lt_add {l : Nat} {k p ask eq t : Int} {ar : List Int} {w : Wo} {K : Wo → Prop} (hl : isLt l) (hs : LiC l k p ask eq ar w) (h4 : ar.length < 4) (ht : tmOK t) (h : ∀ w', LiC l k p ask eq (ar ++ [t]) w' → Frm [l, l + 2] [l + 1] w w' → K w') : MetV m_Lt_add [vr l, vl t] w K := by
  obtain ⟨g0, g1, g2, g3, g4, g5, g6⟩ := hs
  have fin : ∀ s0 : Int, (s0 = 0 → vb t = 0) → (¬ s0 = 0 → 281474976710656 ≤ t ∧ t < 281474976710664) → Wp m_Lt_add 33 [(0, vr l), (1, vl t)] [vi s0] (0, 0) w (fun r w' => r = none ∧ K w') := by
    intro s0 z0 z1
    have en : ∀ (v : Int) (w2 : Wo), v = vb t → w2 = uJ w (l + 1) (gI w l 4).toNat t → (0 ≤ (gI w2 l 4) ∧ (gI w2 l 4) < 4) ∧ (∀ w5 : Wo, w5 = uI w2 (l + 2) (gI w2 l 4).toNat v → inr32 ((gI w5 l 4) + 1) ∧ (∀ w7 : Wo, w7 = uI w5 l 4 ((gI w5 l 4) + 1) → (none : Option AV) = none ∧ K w7)) := by
      intro v w2 hv e2
      have q2 : gI w2 l 4 = ar.length := by rw [e2, gI_uJ]; exact g4
      rw [q2]
      refine ⟨⟨by omega, by omega⟩, fun w5 e5 => ?_⟩
      have q5 : gI w5 l 4 = ar.length := by rw [e5, gI_uI, if_neg (by omega)]; exact q2
      rw [q5]
      refine ⟨⟨by omega, by omega⟩, fun w7 e7 => ⟨rfl, h w7 ⟨?_, ?_, ?_, ?_, ?_, ?_, fun i x hx => ?_⟩ ?_⟩⟩
      · rw [e7, gI_uI, if_neg (by omega), e5, gI_uI, if_neg (by omega), e2, gI_uJ]; exact g0
      · rw [e7, gI_uI, if_neg (by omega), e5, gI_uI, if_neg (by omega), e2, gI_uJ]; exact g1
      · rw [e7, gI_uI, if_neg (by omega), e5, gI_uI, if_neg (by omega), e2, gI_uJ]; exact g2
      · rw [e7, gI_uI, if_neg (by omega), e5, gI_uI, if_neg (by omega), e2, gI_uJ]; exact g3
      · rw [e7, gI_uI, if_pos ⟨rfl, rfl⟩, List.length_append]; rfl
      · rw [List.length_append]; show ar.length + 1 ≤ 4; omega
      · have ej : gJ w7 (l + 1) i = if i = ar.length then t else gJ w (l + 1) i := by
          rw [e7, gJ_uI, e5, gJ_uI, e2, gJ_uJ, g4]
          by_cases hi : i = ar.length
          · rw [if_pos ⟨rfl, by omega⟩, if_pos hi]
          · rw [if_neg (by omega), if_neg hi]
        have ei : gI w7 (l + 2) i = if i = ar.length then v else gI w (l + 2) i := by
          rw [e7, gI_uI, if_neg (by omega), e5, gI_uI]
          by_cases hi : i = ar.length
          · rw [if_pos ⟨rfl, by omega⟩, if_pos hi]
          · rw [if_neg (by omega), if_neg hi, e2, gI_uJ]
        rw [ej, ei]
        by_cases hi : i < ar.length
        · rw [List.getElem?_append_left hi] at hx
          rw [if_neg (by omega), if_neg (by omega)]
          exact g6 i x hx
        · rw [List.getElem?_append_right (by omega)] at hx
          by_cases hi2 : i = ar.length
          · subst hi2
            rw [Nat.sub_self] at hx
            have : t = x := by simpa using hx
            subst this
            rw [if_pos rfl, if_pos rfl]
            exact ⟨rfl, hv⟩
          · rw [List.getElem?_eq_none (by show 1 ≤ i - ar.length; omega)] at hx
            cases hx
      · rw [e7, e5, e2]
        exact ((Frm.rf.uJ (by simp)).uI (by simp)).uI (by simp)
    refine t_Lt_add_33 hl ⟨by rw [g4]; exact ⟨by omega, by omega⟩, fun w2 e2 => ⟨fun z => en 0 w2 (z0 z).symm e2, fun z => ⟨⟨by have := z1 z; omega, by have := z1 z; omega⟩, en _ w2 ?_ e2⟩⟩⟩
    obtain ⟨z2, z3⟩ := z1 z
    unfold vb
    rw [if_pos ⟨z2, by omega⟩, ← shl8 _ (by omega)]
    congr 2
    omega
  refine met_of (by decide) rfl (Nat.le_of_ble_eq_true rfl) (t_Lt_add_0 hl ⟨fun z => by omega, fun _ => ?_⟩)
  rw [lcmpL, lcmpG]
  refine ⟨fun z => t_Lt_add_32 hl (fin 0 (fun _ => if_neg (by omega)) (fun q => absurd rfl q)), fun z => ⟨fun z2 => t_Lt_add_32 hl (fin 0 (fun _ => if_neg (by omega)) (fun q => absurd rfl q)), fun z2 => fin 1 (fun q => absurd q (by decide)) (fun _ => ?_)⟩⟩
  unfold tmOK at ht
  omega
/-- the variable of this name, or a new one -/
theorem s_Cl_variableOf {T : Tks} {nb a : Nat} {V : PL} {tot f : Int × Int} {sz ato : Int} {w : Wo} {x p : Int} {K : Int → Wo → Prop} (hs : CS T nb a V tot f sz ato w) (h1 : ∀ i V', pVar V x p = some (i, V') → i < 8 → ∀ w', CS T nb a V' tot f sz ato w' → Frm [9, 15] [14] w w' → K (i : Int) w') (h0 : pVar V x p = none → K (-1) w) : MetI m_Cl_variableOf [vr 9, vl x, vi p] w K := by
  obtain ⟨⟨t1, t2, t3⟩, ha, ⟨a1, a2, a3, a4⟩, ⟨v1, v2, v3⟩, ⟨o1, o2⟩, ⟨f1, f2⟩, s1, s2⟩ := id hs
  have lp : ∀ (k i : Nat), V.length - i ≤ k → i ≤ V.length → (∀ (j : Nat) (z : Int × Int), j < i → V[j]? = some z → z.1 ≠ x) → Wp m_Cl_variableOf 3 [(0, vr 9), (1, vl x), (3, vi p), (4, vi (i : Int))] [] (0, 0) w (fun r w' => ∃ y, r = some (vi y) ∧ K y w') := by
    intro k
    induction k with
    | zero =>
      intro i hk hi hj
      have hie : i = V.length := by omega
      have hno : fi V x = V.length := fi_no V x (fun j z hz => hj j z (by have := (List.getElem?_eq_some_iff.mp hz).1; omega) hz)
      refine t_Cl_variableOf_3 ⟨fun _ => ⟨fun h8 => ?_, fun h8 => kI (h0 ?_)⟩, fun z => by omega⟩
      · rw [v1]
        have h8' : V.length < 8 := by omega
        refine ⟨⟨by omega, by omega⟩, fun w2 e2 => ?_⟩
        have q2 : gI w2 9 6 = V.length := by rw [e2, gI_uJ]; exact v1
        rw [q2]
        refine ⟨⟨by omega, by omega⟩, fun w5 e5 => ?_⟩
        have q5 : gI w5 9 6 = V.length := by rw [e5, gI_uI, if_neg (by omega)]; exact q2
        rw [q5]
        refine ⟨⟨by omega, by omega⟩, fun w7 e7 => ?_⟩
        have q7 : gI w7 9 6 = V.length + 1 := by rw [e7, gI_uI, if_pos ⟨rfl, rfl⟩]
        rw [q7]
        refine ⟨⟨by omega, by omega⟩, ?_⟩
        rw [show (V.length : Int) + 1 - 1 = (V.length : Int) by omega]
        have hf : Frm [9, 15] [14] w w7 := by rw [e7, e5, e2]; exact ((Frm.rf.uJ (by decide)).uI (by decide)).uI (by decide)
        have n9 : ∀ k, k ≠ 6 → gI w7 9 k = gI w 9 k := by
          intro k h6
          rw [e7, gI_uI, if_neg (by omega), e5, gI_uI, if_neg (by omega), e2, gI_uJ]
        refine kI (h1 V.length (V ++ [(x, p)]) (by unfold pVar; rw [if_neg (by omega), if_pos h8']) h8' w7 ⟨⟨?_, ?_, fun i hi => ?_⟩, ha, ⟨?_, ?_, ?_, ?_⟩, ⟨?_, ?_, fun i y hy => ?_⟩, ⟨?_, ?_⟩, ⟨?_, ?_⟩, ?_, ?_⟩ hf)
        · rw [hf.1 5 (by decide)]; exact t1
        · rw [hf.1 5 (by decide)]; exact t2
        · rw [hf.1 6 (by decide), hf.1 7 (by decide), hf.2.1 8 (by decide)]; exact t3 i hi
        · rw [hf.1 4 (by decide)]; exact a1
        · rw [hf.1 4 (by decide)]; exact a2
        · rw [hf.1 4 (by decide)]; exact a3
        · rw [hf.2.1 4 (by decide)]; exact a4
        · rw [q7, List.length_append]; rfl
        · rw [List.length_append]; show V.length + 1 ≤ 8; omega
        · have ej : gJ w7 14 i = if i = V.length then x else gJ w 14 i := by
            rw [e7, gJ_uI, e5, gJ_uI, e2, gJ_uJ]
            by_cases hi : i = V.length
            · rw [if_pos ⟨rfl, by omega⟩, if_pos hi]
            · rw [if_neg (by omega), if_neg hi]
          have ei : gI w7 15 i = if i = V.length then p else gI w 15 i := by
            rw [e7, gI_uI, if_neg (by omega), e5, gI_uI]
            by_cases hi : i = V.length
            · rw [if_pos ⟨rfl, by omega⟩, if_pos hi]
            · rw [if_neg (by omega), if_neg hi, e2, gI_uJ]
          rw [ej, ei]
          by_cases hi : i < V.length
          · rw [List.getElem?_append_left hi] at hy
            rw [if_neg (by omega), if_neg (by omega)]
            exact v3 i y hy
          · rw [List.getElem?_append_right (by omega)] at hy
            by_cases hi2 : i = V.length
            · subst hi2
              rw [Nat.sub_self] at hy
              have : (x, p) = y := by simpa using hy
              subst this
              rw [if_pos rfl, if_pos rfl]
              exact ⟨rfl, rfl⟩
            · rw [List.getElem?_eq_none (by show 1 ≤ i - V.length; omega)] at hy
              cases hy
        · rw [n9 4 (by decide)]; exact o1
        · rw [n9 5 (by decide)]; exact o2
        · rw [hf.1 4 (by decide)]; exact f1
        · rw [hf.1 4 (by decide)]; exact f2
        · rw [n9 2 (by decide)]; exact s1
        · rw [n9 3 (by decide)]; exact s2
      · unfold pVar
        rw [if_neg (by omega), if_neg (by omega)]
    | succ k ih =>
      intro i hk hi hj
      by_cases hie : i = V.length
      · exact ih i (by omega) hi hj
      · have hil : i < V.length := by omega
        have hg : V[i]? = some V[i] := List.getElem?_eq_getElem hil
        have hv := v3 i _ hg
        refine t_Cl_variableOf_3 ⟨fun z => by omega, fun _ => ⟨⟨by omega, by omega⟩, fun z => ⟨⟨by omega, by omega⟩, ?_⟩, fun z => ?_⟩⟩
        · rw [show ((i : Int)).toNat = i from rfl, hv.1, lcmp0] at z
          refine ih (i + 1) (by omega) (by omega) (fun j y h2 h3 => ?_)
          by_cases h4 : j = i
          · subst h4
            rw [hg] at h3
            have : V[j] = y := by simpa using h3
            rw [← this]; exact z
          · exact hj j y (by omega) h3
        · rw [show ((i : Int)).toNat = i from rfl, hv.1, lcmp0] at z
          have hfi := fi_at V x i _ hj hg z
          exact kI (h1 i V (by unfold pVar; rw [hfi, if_pos hil]) (by omega) w hs Frm.rf)
  exact met_of (by decide) rfl (Nat.le_of_ble_eq_true rfl) (t_Cl_variableOf_0 (lp V.length 0 (by omega) (Nat.zero_le _) (fun j z hj _ => by omega)))
