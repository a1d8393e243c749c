/-! the class's plan -/
theorem popc_le (x : Nat) : popc x ≤ 8 := by
  unfold popc
  have e : List.range 8 = [0, 1, 2, 3, 4, 5, 6, 7] := by decide
  rw [e]
  simp only [List.foldl]
  have : ∀ i, x / 2 ^ i % 2 ≤ 1 := fun i => by omega
  have h0 := this 0
  have h1 := this 1
  have h2 := this 2
  have h3 := this 3
  have h4 := this 4
  have h5 := this 5
  have h6 := this 6
  have h7 := this 7
  omega
theorem gAt_rng {ls : List Lit} {left hv i : Nat} : -1 ≤ gAt ls left hv i ∧ gAt ls left hv i ≤ 8 := by
  unfold gAt
  split
  · have := popc_le (knA (ls.getD i dfL).2.2.2.2 hv)
    omega
  · omega
theorem bA_spec {g : Nat → Int} (hg : ∀ i, -1 ≤ g i ∧ g i ≤ 8) : ∀ n, (((bA g n).1 = -1 ∧ (bA g n).2 = -1) ∨ ∃ j, j < n ∧ (bA g n).1 = (j : Int) ∧ (bA g n).2 = g j ∧ 0 ≤ g j) ∧ (∀ j, j < n → g j ≤ (bA g n).2) ∧ -1 ≤ (bA g n).2 ∧ (bA g n).2 ≤ 8 := by
  intro n
  induction n with
  | zero => exact ⟨Or.inl ⟨rfl, rfl⟩, fun j hj => by omega, by show (-1 : Int) ≤ -1; decide, by show (-1 : Int) ≤ 8; decide⟩
  | succ n ih =>
    obtain ⟨a, b, c, d⟩ := ih
    have e : bA g (n + 1) = if g n ≤ (bA g n).2 then bA g n else ((n : Int), g n) := rfl
    have hgn := hg n
    by_cases h : g n ≤ (bA g n).2
    · rw [if_pos h] at e
      rw [e]
      refine ⟨?_, fun j hj => ?_, c, d⟩
      · rcases a with a | ⟨j, a1, a2⟩
        · exact Or.inl a
        · exact Or.inr ⟨j, by omega, a2⟩
      · by_cases e2 : j = n
        · rw [e2]; exact h
        · exact b j (by omega)
    · rw [if_neg h] at e
      rw [e]
      refine ⟨Or.inr ⟨n, by omega, rfl, rfl, by omega⟩, fun j hj => ?_, hgn.1, hgn.2⟩
      by_cases e2 : j = n
      · rw [e2]; exact Int.le_refl _
      · have := b j (by omega)
        show g j ≤ g n
        omega
theorem nxt_rng {ls : List Lit} {left hv : Nat} : nxt ls left hv = -1 ∨ (0 ≤ nxt ls left hv ∧ nxt ls left hv < ls.length ∧ left.testBit (nxt ls left hv).toNat = true) := by
  unfold nxt
  split
  · rename_i h
    have := (fT_spec (p := tAt ls left hv) ls.length).2.1 h
    unfold tAt at this
    rw [Bool.and_eq_true, Bool.and_eq_true] at this
    exact Or.inr ⟨by omega, by omega, this.1.1⟩
  · rcases (bA_spec (g := gAt ls left hv) (fun i => gAt_rng) ls.length).1 with h | ⟨j, h1, h2, h3, h4⟩
    · exact Or.inl h.1
    · rw [h2]
      refine Or.inr ⟨by omega, by omega, ?_⟩
      unfold gAt at h4
      by_cases hc : left.testBit j = true ∧ (ls.getD j dfL).1 = 0
      · exact hc.1
      · rw [if_neg hc] at h4; omega
theorem getD_at {ls : List Lit} {i : Nat} (h : i < ls.length) : ls[i]? = some (ls.getD i dfL) := by
  rw [List.getD_eq_getElem?_getD, List.getElem?_eq_getElem h]; rfl
theorem s_Cl_nextAsked {ls : List Lit} {left hv : Nat} {w : Wo} {K : Int → Wo → Prop} (hsz : gI w 9 2 = (ls.length : Nat)) (h6 : ls.length ≤ 6) (hls : LsC ls w) (hok : lisOK ls) (hl : left < 64) (hh : hv < 256) (h : K (nxt ls left hv) w) : MetI m_Cl_nextAsked [vr 9, vi (left : Int), vi (hv : Int)] w K := by
  have lp : ∀ (m i : Nat), ls.length - i ≤ m → i ≤ ls.length → (∀ j, j < i → tAt ls left hv j = false) → Wp m_Cl_nextAsked 8 [(0, vr 9), (1, vi (left : Int)), (2, vi (hv : Int)), (3, vi (bA (gAt ls left hv) i).1), (4, vi (bA (gAt ls left hv) i).2), (5, vi (i : Int))] [] (0, 0) w (fun r w' => ∃ y, r = some (vi y) ∧ K y w') := by
    intro m
    induction m with
    | zero =>
      intro i hm hi hj
      refine t_Cl_nextAsked_8 ⟨fun _ => kI ?_, fun z => by omega⟩
      have e : i = ls.length := by omega
      subst e
      unfold nxt at h
      rw [fT_none ls.length hj, if_neg (by omega)] at h
      exact h
    | succ m ih =>
      intro i hm hi hj
      by_cases hil : i < ls.length
      · have hg := getD_at hil
        have hL := hls i _ hg
        have hlb := ltb_l (ltb_i (i := i) (by omega))
        have hokL := hok _ (List.mem_of_getElem? hg)
        generalize hLe : ls.getD i dfL = L at hg hL hokL
        have k0 := hL.1
        have gE : gAt ls left hv i = if left.testBit i = true ∧ L.1 = 0 then ((popc (knA L.2.2.2.2 hv) : Nat) : Int) else -1 := by unfold gAt; rw [hLe]
        have tE : tAt ls left hv i = (left.testBit i && decide (L.1 ≠ 0) && canL L hv) := by unfold tAt; rw [hLe]
        have bE : bA (gAt ls left hv) (i + 1) = if gAt ls left hv i ≤ (bA (gAt ls left hv) i).2 then bA (gAt ls left hv) i else ((i : Int), gAt ls left hv i) := rfl
        have bs := (bA_spec (g := gAt ls left hv) (fun i => gAt_rng) i).2.2
        have p80 : ∀ (s t : Int), (s = 0 ↔ left.testBit i = false) → (t = 0 ↔ L.1 ≠ 0) → tAt ls left hv i = false → Wp m_Cl_nextAsked 80 [(0, vr 9), (1, vi (left : Int)), (2, vi (hv : Int)), (3, vi (bA (gAt ls left hv) i).1), (4, vi (bA (gAt ls left hv) i).2), (5, vi (i : Int)), (6, vi s), (7, vi t)] [] (0, 0) w (fun r w' => ∃ y, r = some (vi y) ∧ K y w') := by
          intro s t hs ht hnt
          have go := ih (i + 1) (by omega) (by omega) (fun j hj2 => by
            by_cases e : j = i
            · rw [e]; exact hnt
            · exact hj j (by omega))
          have hk16 := knA_lt L.2.2.2.2 hv
          have h16 : 2 ^ L.2.2.2.2.length ≤ 2 ^ 4 := Nat.pow_le_pow_right (show 2 > 0 by decide) hokL.2.1
          have keep : gAt ls left hv i ≤ (bA (gAt ls left hv) i).2 → Wp m_Cl_nextAsked 8 [(0, vr 9), (1, vi (left : Int)), (2, vi (hv : Int)), (3, vi (bA (gAt ls left hv) i).1), (4, vi (bA (gAt ls left hv) i).2), (5, vi ((i : Int) + 1))] [] (0, 0) w (fun r w' => ∃ y, r = some (vi y) ∧ K y w') := by
            intro hle
            rw [bE, if_pos hle] at go
            exact go
          refine t_Cl_nextAsked_80 ⟨⟨by omega, by omega⟩, ?_⟩
          rw [show ((i : Int)).toNat = i from rfl]
          refine s_Lt_knownArguments hlb hL hokL.1 hh (s_bitCount (by omega) ⟨fun z => ⟨⟨by omega, by omega⟩, keep ?_⟩, fun z => ⟨fun z2 => ⟨⟨by omega, by omega⟩, keep ?_⟩, fun z2 => ?_⟩⟩)
          · rw [gE, if_neg (fun q => by rw [hs.mp z] at q; exact absurd q.1 (by decide))]; exact bs.1
          · rw [gE, if_neg (fun q => (ht.mp z2) q.2)]; exact bs.1
          · have c1 : left.testBit i = true := by
              cases hb : left.testBit i with
              | true => rfl
              | false => exact absurd (hs.mpr hb) z
            have c2 : L.1 = 0 := Decidable.of_not_not (fun q => z2 (ht.mpr q))
            rw [if_pos ⟨c1, c2⟩] at gE
            refine ⟨fun z3 => ⟨⟨by omega, by omega⟩, keep (by rw [gE]; exact z3)⟩, fun z3 => ⟨⟨by omega, by omega⟩, ?_⟩⟩
            rw [bE, if_neg (by rw [gE]; exact z3), gE] at go
            exact go
        have p51 : ∀ (s t : Int), (s = 0 ↔ left.testBit i = false) → (t = 0 ↔ L.1 ≠ 0) → Wp m_Cl_nextAsked 51 [(0, vr 9), (1, vi (left : Int)), (2, vi (hv : Int)), (3, vi (bA (gAt ls left hv) i).1), (4, vi (bA (gAt ls left hv) i).2), (5, vi (i : Int)), (6, vi s)] [vi t] (0, 0) w (fun r w' => ∃ y, r = some (vi y) ∧ K y w') := by
          intro s t hs ht
          refine t_Cl_nextAsked_51 ⟨fun z => p80 s t hs ht (by rw [tE, hs.mp z]; rfl), fun z => ⟨fun z2 => p80 s t hs ht ?_, fun z2 => ⟨⟨by omega, by omega⟩, ?_⟩⟩⟩
          · have c2 : L.1 = 0 := Decidable.of_not_not (fun q => z2 (ht.mpr q))
            rw [tE]; simp [c2]
          · have c1 : left.testBit i = true := by
              cases hb : left.testBit i with
              | true => rfl
              | false => exact absurd (hs.mpr hb) z
            have c2 := ht.mp z2
            rw [show ((i : Int)).toNat = i from rfl]
            refine s_Lt_canBeAsked hlb hL hokL hh (fun hc => ⟨fun q => absurd q (by decide), fun _ => kI ?_⟩) (fun hc => ⟨fun _ => p80 s t hs ht (by rw [tE, hc]; simp), fun q => absurd rfl q⟩)
            have : tAt ls left hv i = true := by rw [tE, c1, hc]; simp [c2]
            unfold nxt at h
            rw [fT_at ls.length i hil this hj, if_pos hil] at h
            exact h
        have p31 : ∀ (s : Int), (s = 0 ↔ left.testBit i = false) → Wp m_Cl_nextAsked 31 [(0, vr 9), (1, vi (left : Int)), (2, vi (hv : Int)), (3, vi (bA (gAt ls left hv) i).1), (4, vi (bA (gAt ls left hv) i).2), (5, vi (i : Int))] [vi s] (0, 0) w (fun r w' => ∃ y, r = some (vi y) ∧ K y w') := by
          intro s hs
          refine t_Cl_nextAsked_31 ⟨⟨by omega, by omega⟩, ?_⟩
          rw [show ((i : Int)).toNat = i from rfl, k0]
          exact ⟨fun z => p51 s 0 hs ⟨fun _ => z, fun _ => rfl⟩, fun z => p51 s 1 hs ⟨fun q => absurd q (by decide), fun q => absurd z q⟩⟩
        refine t_Cl_nextAsked_8 ⟨fun z => by omega, fun _ => ?_⟩
        rw [b_bit0 (by omega) (by omega)]
        refine ⟨fun z => p31 0 ⟨fun _ => z, fun _ => rfl⟩, fun z => p31 1 ⟨fun q => absurd q (by decide), fun q => absurd q z⟩⟩
      · exact ih i (by omega) hi hj
  exact met_of (by decide) rfl (Nat.le_of_ble_eq_true rfl) (t_Cl_nextAsked_0 (lp ls.length 0 (by omega) (Nat.zero_le _) (fun j hj => by omega)))
theorem s_Cl_firstWithout {V : PL} {hv : Nat} {w : Wo} {K : Int → Wo → Prop} (hV : VrC V w) (hh : hv < 256) (h : K (ubd V hv) w) : MetI m_Cl_firstWithout [vr 9, vi (hv : Int)] w K := by
  obtain ⟨v1, v2, v3⟩ := hV
  have lp : ∀ (m i : Nat), V.length - i ≤ m → i ≤ V.length → (∀ j, j < i → (!hv.testBit j) = false) → Wp m_Cl_firstWithout 2 [(0, vr 9), (1, vi (hv : Int)), (2, vi (i : Int))] [] (0, 0) w (fun r w' => ∃ y, r = some (vi y) ∧ K y w') := by
    intro m
    induction m with
    | zero =>
      intro i hm hi hj
      refine t_Cl_firstWithout_2 ⟨fun _ => kI ?_, fun z => by omega⟩
      have e : i = V.length := by omega
      subst e
      unfold ubd at h
      rw [fT_none V.length hj, if_neg (by omega)] at h
      exact h
    | succ m ih =>
      intro i hm hi hj
      by_cases hil : i < V.length
      · refine t_Cl_firstWithout_2 ⟨fun z => by omega, fun _ => ?_⟩
        rw [b_bit0 (by omega) (by omega)]
        refine ⟨fun z => ⟨⟨by omega, by omega⟩, ih (i + 1) (by omega) (by omega) (fun j hj2 => ?_)⟩, fun z => ⟨⟨by omega, by omega⟩, kI ?_⟩⟩
        · by_cases e : j = i
          · rw [e]; simpa using z
          · exact hj j (by omega)
        · have hg : V[i]? = some (V.getD i (0, 0)) := by rw [List.getD_eq_getElem?_getD, List.getElem?_eq_getElem hil]; rfl
          rw [show ((i : Int)).toNat = i from rfl, (v3 i _ hg).2]
          unfold ubd at h
          rw [fT_at V.length i hil (by rw [z]; rfl) hj, if_pos hil] at h
          exact h
      · exact ih i (by omega) hi hj
  exact met_of (by decide) rfl (Nat.le_of_ble_eq_true rfl) (t_Cl_firstWithout_0 (lp V.length 0 (by omega) (Nat.zero_le _) (fun j hj => by omega)))
/-- the plan's rows as they lie in the clause -/
def RowC (rows : List (Int × Int × Int)) (w : Wo) : Prop := ∀ i r, rows[i]? = some r → gI w 16 i = r.1 ∧ gI w 17 i = r.2.1 ∧ gI w 18 i = r.2.2
theorem plan_rng {ls : List Lit} (h6 : ls.length ≤ 6) (hok : lisOK ls) : ∀ k, (plan ls k).1 < 256 ∧ (plan ls k).2.1 < 64 ∧ (plan ls k).2.2.length ≤ k := by
  intro k
  induction k with
  | zero =>
    have : 2 ^ ls.length ≤ 2 ^ 6 := Nat.pow_le_pow_right (show 2 > 0 by decide) h6
    exact ⟨by show 0 < 256; decide, by show 2 ^ ls.length - 1 < 64; omega, Nat.le_refl _⟩
  | succ k ih =>
    obtain ⟨a, b, c⟩ := ih
    unfold plan
    split
    · exact ⟨a, b, by omega⟩
    · rename_i hn
      rcases nxt_rng (ls := ls) (left := (plan ls k).2.1) (hv := (plan ls k).1) with e | ⟨e1, e2, e3⟩
      · omega
      · have hg := getD_at (ls := ls) (i := (nxt ls (plan ls k).2.1 (plan ls k).1).toNat) (by omega)
        refine ⟨Nat.or_lt_two_pow (n := 8) a (vmA_lt (hok _ (List.mem_of_getElem? hg)).1), andn_lt (k := 6) b, ?_⟩
        rw [List.length_append]
        show (plan ls k).2.2.length + 1 ≤ k + 1
        omega
theorem plan_stuck {ls : List Lit} {k : Nat} (h : nxt ls (plan ls k).2.1 (plan ls k).1 < 0) : ∀ j, k ≤ j → plan ls j = plan ls k := by
  intro j
  induction j with
  | zero => intro hj; rw [show k = 0 by omega]
  | succ j ih =>
    intro hj
    by_cases e : k = j + 1
    · rw [e]
    · have := ih (by omega)
      have e2 : plan ls (j + 1) = plan ls j := by
        rw [plan, this, if_pos h]
      rw [e2, this]
theorem s_Cl_plan {T : Tks} {nb a : Nat} {V : PL} {tot f : Int × Int} {ato : Int} {ls : List Lit} {w : Wo} {K : Int → Wo → Prop} (hs : CS T nb a V tot f (ls.length : Nat) ato w) (h6 : ls.length ≤ 6) (hls : LsC ls w) (hok : lisOK ls) (h : ∀ w', RowC (plan ls ls.length).2.2 w' → Frm [16, 17, 18] [] w w' → K (ubd V (plan ls ls.length).1) w') : MetI m_Cl_plan [vr 9] w K := by
  have hsz : gI w 9 2 = (ls.length : Nat) := hs.2.2.2.2.2.2.1
  have lp : ∀ (m k : Nat) (w1 : Wo), ls.length - k ≤ m → k ≤ ls.length → (plan ls k).2.2.length = k → RowC (plan ls k).2.2 w1 → Frm [16, 17, 18] [] w w1 → Wp m_Cl_plan 13 [(0, vr 9), (1, vi ((plan ls k).1 : Nat)), (2, vi ((plan ls k).2.1 : Nat)), (3, vi (k : Int))] [] (0, 0) w1 (fun r w' => ∃ y, r = some (vi y) ∧ K y w') := by
    intro m
    induction m with
    | zero =>
      intro k w1 hm hk hln hr F1
      have e : k = ls.length := by omega
      subst e
      have hV : VrC V w1 := (hs.frm F1 (by decide) (by decide)).2.2.2.1
      have z1 : gI w1 9 2 = (ls.length : Nat) := by rw [F1.1 9 (by decide)]; exact hsz
      refine t_Cl_plan_13 ⟨fun _ => s_Cl_firstWithout hV (plan_rng h6 hok _).1 (kI (h w1 hr F1)), fun z => by omega⟩
    | succ m ih =>
      intro k w1 hm hk hln hr F1
      obtain ⟨r1, r2, r3⟩ := plan_rng h6 hok k
      have c1 := hs.frm F1 (by decide) (by decide)
      have z1 : gI w1 9 2 = (ls.length : Nat) := by rw [F1.1 9 (by decide)]; exact hsz
      by_cases hkl : k < ls.length
      · have hls1 : LsC ls w1 := fun i L hi => (hls i L hi).frm F1 (by simp; omega) (by simp)
        refine t_Cl_plan_13 ⟨fun z => by omega, fun _ => s_Cl_nextAsked z1 h6 hls1 hok r2 r1 ⟨fun hn => ?_, fun hn => ?_⟩⟩
        · rcases nxt_rng (ls := ls) (left := (plan ls k).2.1) (hv := (plan ls k).1) with e | ⟨e1, e2, e3⟩
          · exact absurd e hn
          · have hpl : plan ls (k + 1) = if nxt ls (plan ls k).2.1 (plan ls k).1 < 0 then plan ls k else
                ((plan ls k).1 ||| vmA (ls.getD (nxt ls (plan ls k).2.1 (plan ls k).1).toNat dfL).2.2.2.2,
                 andn (plan ls k).2.1 (2 ^ (nxt ls (plan ls k).2.1 (plan ls k).1).toNat),
                 (plan ls k).2.2 ++ [(nxt ls (plan ls k).2.1 (plan ls k).1,
                   (if (ls.getD (nxt ls (plan ls k).2.1 (plan ls k).1).toNat dfL).1 ≤ 1 then ((knA (ls.getD (nxt ls (plan ls k).2.1 (plan ls k).1).toNat dfL).2.2.2.2 (plan ls k).1 : Nat) : Int) else 0),
                   ((popc ((plan ls k).1 ||| vmA (ls.getD (nxt ls (plan ls k).2.1 (plan ls k).1).toNat dfL).2.2.2.2) : Nat) : Int))]) := by rw [plan]
            rw [if_neg (by omega)] at hpl
            generalize hze : nxt ls (plan ls k).2.1 (plan ls k).1 = z at hpl e1 e2 e3 hn
            obtain ⟨zn, hzn⟩ := Int.eq_ofNat_of_zero_le e1
            subst hzn
            rw [show ((zn : Int)).toNat = zn from rfl] at hpl e3
            have hz6 : zn < ls.length := by omega
            have hg := getD_at hz6
            have hlb := ltb_i (i := zn) (by omega)
            have hokL := hok _ (List.mem_of_getElem? hg)
            generalize hLe : ls.getD zn dfL = L at hg hokL hpl
            have hvm := vmA_lt hokL.1
            have e8 : (8 : Nat) = 8 := rfl
            have tail : ∀ (kn : Int) (w8 w13 : Wo), w8 = uI w1 16 k zn → w13 = uI w8 17 k kn → kn = (if L.1 ≤ 1 then ((knA L.2.2.2.2 (plan ls k).1 : Nat) : Int) else 0) → MetI m_Lt_variablesFrom [vr (19 + 3 * zn), vi 0] w13 (fun z16 w15 => MetI m_JI_bitCount [vi (b_ior ((plan ls k).1 : Nat) z16)] w15 (fun z18 w17 => (0 ≤ (k : Int) ∧ (k : Int) < 6) ∧ (∀ w20 : Wo, w20 = uI w17 18 (k : Int).toNat z18 → inr32 ((k : Int) + 1) ∧ Wp m_Cl_plan 13 [(0, vr 9), (1, vi (b_ior ((plan ls k).1 : Nat) z16)), (2, vi (b_iand ((plan ls k).2.1 : Nat) (b_ixor (b_ishl 1 (zn : Int)) (-1)))), (3, vi ((k : Int) + 1))] [] (0, 0) w20 (fun r w' => ∃ y, r = some (vi y) ∧ K y w')))) := by
              intro kn w8 w13 e8 e13 hkn
              have F13 : Frm [16, 17, 18] [] w1 w13 := by rw [e13, e8]; exact (Frm.rf.uI (by decide)).uI (by decide)
              have L13 : LiL (19 + 3 * zn) L w13 := (hls1 zn L hg).frm F13 (by simp; omega) (by simp)
              refine s_Lt_variablesFrom (i0 := 0) (ltb_l hlb) L13 hokL.1 ?_
              rw [List.drop_zero, b_ior_n (by omega) (by omega)]
              have hor : (plan ls k).1 ||| vmA L.2.2.2.2 < 256 := Nat.or_lt_two_pow (n := 8) r1 hvm
              refine s_bitCount hor ⟨⟨by omega, by omega⟩, fun w20 e20 => ⟨⟨by omega, by omega⟩, ?_⟩⟩
              have hzl : zn < 6 := by omega
              have h2z : 2 ^ zn < 2 ^ 6 := Nat.pow_lt_pow_right (show 1 < 2 by decide) hzl
              rw [b_ishl_1 zn (by omega), b_iandn_n (by omega) (by omega)]
              have F20 : Frm [16, 17, 18] [] w1 w20 := by rw [e20]; exact F13.uI (by decide)
              have hl1 : (plan ls (k + 1)).2.2.length = k + 1 := by rw [hpl, List.length_append]; show (plan ls k).2.2.length + 1 = k + 1; omega
              have go := ih (k + 1) w20 (by omega) (by omega) hl1 ?_ (F1.tr F20)
              · have x1 : (plan ls (k + 1)).1 = (plan ls k).1 ||| vmA L.2.2.2.2 := by rw [hpl]
                have x2 : (plan ls (k + 1)).2.1 = andn (plan ls k).2.1 (2 ^ zn) := by rw [hpl]
                rw [x1, x2] at go
                exact go
              · rw [hpl]
                intro i r hi
                rw [show ((k : Int)).toNat = k from rfl] at e20
                have g16 : gI w20 16 i = if i = k then (zn : Int) else gI w1 16 i := by
                  rw [e20, gI_uI, if_neg (by omega), e13, gI_uI, if_neg (by omega), e8, gI_uI]
                  by_cases hik : i = k
                  · rw [if_pos ⟨rfl, hik⟩, if_pos hik]
                  · rw [if_neg (fun q => hik q.2), if_neg hik]
                have g17 : gI w20 17 i = if i = k then kn else gI w1 17 i := by
                  rw [e20, gI_uI, if_neg (by omega), e13, gI_uI]
                  by_cases hik : i = k
                  · rw [if_pos ⟨rfl, hik⟩, if_pos hik]
                  · rw [if_neg (fun q => hik q.2), if_neg hik, e8, gI_uI, if_neg (by omega)]
                have g18 : gI w20 18 i = if i = k then ((popc ((plan ls k).1 ||| vmA L.2.2.2.2) : Nat) : Int) else gI w1 18 i := by
                  rw [e20, gI_uI]
                  by_cases hik : i = k
                  · rw [if_pos ⟨rfl, hik⟩, if_pos hik]
                  · rw [if_neg (fun q => hik q.2), if_neg hik, e13, gI_uI, if_neg (by omega), e8, gI_uI, if_neg (by omega)]
                rw [g16, g17, g18]
                rcases getApp hi with ⟨hi2, hi⟩ | ⟨hi2, hi⟩
                · rw [if_neg (by omega), if_neg (by omega), if_neg (by omega)]
                  exact hr i r hi
                · rw [if_pos (by omega), if_pos (by omega), if_pos (by omega), ← hi]
                  exact ⟨rfl, hkn, rfl⟩
            refine ⟨⟨by omega, by omega⟩, ⟨by omega, by omega⟩, fun w8 e8 => ?_⟩
            rw [show ((k : Int)).toNat = k from rfl] at e8
            rw [show ((zn : Int)).toNat = zn from rfl]
            have F8 : Frm [16, 17, 18] [] w1 w8 := by rw [e8]; exact Frm.rf.uI (by decide)
            have L8 : LiL (19 + 3 * zn) L w8 := (hls1 zn L hg).frm F8 (by simp; omega) (by simp)
            have kk := hokL.2.2
            refine s_Lt_isAtom (ltb_l hlb) L8 (fun ha => ⟨fun q => absurd q (by decide), fun _ => s_Lt_knownArguments (ltb_l hlb) L8 hokL.1 r1 ⟨⟨by omega, by omega⟩, fun w13 e13 => ?_⟩⟩) (fun ha => ⟨fun _ => ⟨⟨by omega, by omega⟩, fun w13 e13 => ?_⟩, fun q => absurd rfl q⟩)
            · exact tail _ w8 w13 e8 e13 (by rw [if_pos (by omega)])
            · exact tail 0 w8 w13 e8 e13 (by rw [if_neg (by omega)])
        · have hst : nxt ls (plan ls k).2.1 (plan ls k).1 < 0 := by omega
          have e := plan_stuck hst ls.length hk
          rw [e] at h
          exact s_Cl_firstWithout c1.2.2.2.1 r1 (kI (h w1 hr F1))
      · exact ih k w1 (by omega) hk hln hr F1
  have hp2 : 2 ^ ls.length ≤ 2 ^ 6 := Nat.pow_le_pow_right (show 2 > 0 by decide) h6
  have hp1 : 1 ≤ 2 ^ ls.length := Nat.one_le_two_pow
  refine met_of (by decide) rfl (Nat.le_of_ble_eq_true rfl) (t_Cl_plan_0 ?_)
  rw [hsz, b_ishl_1 ls.length (by omega)]
  refine ⟨⟨by omega, by omega⟩, ?_⟩
  have e0 : ((2 ^ ls.length : Nat) : Int) - 1 = (((plan ls 0).2.1 : Nat) : Int) := by
    show _ = ((2 ^ ls.length - 1 : Nat) : Int)
    omega
  rw [e0]
  exact lp ls.length 0 w (by omega) (Nat.zero_le _) rfl (fun i r hi => by simp [plan] at hi) Frm.rf
