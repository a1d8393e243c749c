/-! the reference: one token, all tokens -/
theorem toN {x : Int} (h : 0 ≤ x) : x = ((x.toNat : Nat) : Int) := by omega
theorem tot_rng {c : Nat → Int} {p e : Nat} : 0 ≤ totOf c p e ∧ totOf c p e ≤ 4 := by
  unfold totOf
  split
  · omega
  · split
    · omega
    · split
      · omega
      · split <;> omega
theorem one_nm {c : Nat → Int} {p e : Nat} {v : Int} (h1 : 1 ≤ e - p) (hv : e - p ≤ 7 → v = (pkT 256 c (e - p) p 0 : Nat)) (hc : ∀ i, p ≤ i → i < e → 32 ≤ c i ∧ c i ≤ 126) : (if e - p ≤ 5 then wOf v else 0) = if 0 < totOf c p e then totOf c p e + 1 else if spP c p e 4 then 1 else 0 := by
  by_cases h5 : e - p ≤ 5
  · rw [if_pos h5]
    have ev := hv (by omega)
    subst ev
    have w4 := wOf_sp h1 h5 hc
    have w0 := wOf_co h1 h5 hc
    have w1 := wOf_su h1 h5 hc
    have w2 := wOf_le h1 h5 hc
    have w3 := wOf_mo h1 h5 hc
    unfold wOf totOf
    by_cases k0 : spP c p e 0
    · have := w0.mpr k0
      rw [if_neg (by omega), if_pos this, if_pos k0, if_pos (by decide)]
      rfl
    · rw [if_neg (show ¬ spP c p e 0 from k0)]
      by_cases k1 : spP c p e 1
      · have := w1.mpr k1
        rw [if_neg (by omega), if_neg (by omega), if_pos this, if_pos k1, if_pos (by decide)]
        rfl
      · rw [if_neg (show ¬ spP c p e 1 from k1)]
        by_cases k2 : spP c p e 2
        · have := w2.mpr k2
          rw [if_neg (by omega), if_neg (by omega), if_neg (by omega), if_pos this, if_pos k2, if_pos (by decide)]
          rfl
        · rw [if_neg (show ¬ spP c p e 2 from k2)]
          by_cases k3 : spP c p e 3
          · have := w3.mpr k3
            rw [if_neg (by omega), if_neg (by omega), if_neg (by omega), if_neg (by omega), if_pos this, if_pos k3, if_pos (by decide)]
            rfl
          · rw [if_neg (show ¬ spP c p e 3 from k3), if_neg (show ¬ (0 : Int) < 0 by decide)]
            by_cases k4 : spP c p e 4
            · rw [if_pos k4, if_pos (w4.mpr k4)]
            · rw [if_neg k4, if_neg (fun z => k4 (w4.mp z)), if_neg (fun z => k0 (w0.mp z)), if_neg (fun z => k1 (w1.mp z)), if_neg (fun z => k2 (w2.mp z)), if_neg (fun z => k3 (w3.mp z))]
  · rw [if_neg h5]
    have n0 : ∀ i, i < 5 → ¬ spP c p e i := fun i hi z => by
      have := stN5 i hi
      have := z.1
      omega
    unfold totOf
    rw [if_neg (n0 0 (by decide)), if_neg (n0 1 (by decide)), if_neg (n0 2 (by decide)), if_neg (n0 3 (by decide)), if_neg (n0 4 (by decide))]
    rfl
theorem s_M_oneToken {c : Nat → Int} {n p : Nat} {w : Wo} {K : Int → Wo → Prop} (ht : MtR c n w) (hp : p < n) (hc : 0 ≤ gI w 78 5 ∧ gI w 78 5 < 602) (h : ∀ mk mc mv w', TokRel (kd c n p) (v7 c n p) mk mc mv → w' = mkAdd w mk mc (p : Int) mv → K (tkEnd c n p : Nat) w') : MetI m_M_oneToken [vr 78, vi (p : Int)] w K := by
  have h600 := ht.1
  have hg := ht.2.2.1 p hp
  have hch := MtR_ch ht hp
  refine met_of (by decide) rfl (Nat.le_of_ble_eq_true rfl) (t_M_oneToken_0 ⟨⟨by omega, by omega⟩, ⟨by omega, by omega⟩, s_M_isDigit ?_⟩)
  rw [show ((p : Int)).toNat = p from rfl, hg, b01_0, decide_eq_false_iff_not]
  refine ⟨fun h1 => s_M_isSmall ?_, fun h1 => ?_⟩
  · rw [b01_0, decide_eq_false_iff_not]
    refine ⟨fun h2 => s_M_isGreat ?_, fun h2 => ?_⟩
    · rw [b01_0, decide_eq_false_iff_not]
      refine ⟨fun h3 => ?_, fun h3 => ?_⟩
      · -- signs
        have so : sortOf (c p) = 0 := by unfold sortOf; rw [if_neg h2, if_neg h3, if_neg h1]
        have hk : kd c n p = if pairK (c p) (chf c n ((p : Int) + 1)) = 1 then signK (c p) else pairK (c p) (chf c n ((p : Int) + 1)) := by
          unfold kd; rw [so]; rfl
        have hE : tkEnd c n p = if pairK (c p) (chf c n ((p : Int) + 1)) = 1 then p + 1 else p + 2 := by
          unfold tkEnd; rw [so]; rfl
        have end1 : ∀ s0 : Int, pairK (c p) (chf c n ((p : Int) + 1)) = 1 → (TokRel (signK (c p)) (v7 c n p) (if s0 = 0 then 6 else 4) (c p) 0) → Wp m_M_oneToken 473 [(0, vr 78), (1, vi (p : Int)), (2, vi (c p)), (3, vi ((p : Int) + 1)), (7, vi 0)] [vi s0] (0, 0) w (fun r w' => ∃ y, r = some (vi y) ∧ K y w') := by
          intro s0 hpk hT
          rw [if_pos hpk] at hk hE
          refine t_M_oneToken_473 ⟨fun z => absurd z (by decide), fun _ => ⟨fun z => ⟨fun _ => s_M_token hc ⟨fun _ => ⟨⟨by omega, by omega⟩, ?_⟩, fun z => absurd (Int.le_refl 0) z⟩, fun z => absurd (Int.le_refl 0) z⟩, fun z => ⟨fun _ => s_M_token hc ⟨fun _ => ⟨⟨by omega, by omega⟩, ?_⟩, fun z => absurd (Int.le_refl 0) z⟩, fun z => absurd (Int.le_refl 0) z⟩⟩⟩
          · rw [if_pos z] at hT
            have := h 6 (c p) 0 _ (by rw [hk]; exact hT) rfl
            rw [hE] at this
            rw [show (p : Int) + 1 + 0 = ((p + 1 : Nat) : Int) by omega]
            exact kI this
          · rw [if_neg z] at hT
            have := h 4 (c p) 0 _ (by rw [hk]; exact hT) rfl
            rw [hE] at this
            rw [show (p : Int) + 1 + 0 = ((p + 1 : Nat) : Int) by omega]
            exact kI this
        have one0 : pairK (c p) (chf c n ((p : Int) + 1)) = 1 → Wp m_M_oneToken 376 [(0, vr 78), (1, vi (p : Int)), (2, vi (c p)), (3, vi ((p : Int) + 1))] [vi 0] (0, 0) w (fun r w' => ∃ y, r = some (vi y) ∧ K y w') := by
          intro hpk
          have g : (c p = 40 ∨ c p = 41 ∨ c p = 44 ∨ c p = 46 ∨ c p = 63 ∨ c p = 33 ∨ c p = 95 ∨ c p = 61 ∨ c p = 60 ∨ c p = 62 ∨ c p = 43 ∨ c p = 45 ∨ c p = 42 ∨ c p = 47 ∨ c p = 37) → Wp m_M_oneToken 468 [(0, vr 78), (1, vi (p : Int)), (2, vi (c p)), (3, vi ((p : Int) + 1)), (7, vi 0)] [] (0, 0) w (fun r w' => ∃ y, r = some (vi y) ∧ K y w') := fun z => t_M_oneToken_468 (end1 1 hpk (TR_sg z))
          refine t_M_oneToken_376 ⟨fun z => g (by omega), fun z1 => ⟨fun z => g (by omega), fun z2 => ⟨fun z => g (by omega), fun z3 => ⟨fun z => g (by omega), fun z4 => ⟨fun z => g (by omega), fun z5 => ⟨fun z => g (by omega), fun z6 => ⟨fun z => g (by omega), fun z7 => ⟨fun z => g (by omega), fun z8 => ⟨fun z => g (by omega), fun z9 => ⟨fun z => g (by omega), fun z10 => ⟨fun z => g (by omega), fun z11 => ⟨fun z => g (by omega), fun z12 => ⟨fun z => g (by omega), fun z13 => ⟨fun z => g (by omega), fun z14 => ⟨fun z15 => ?_, fun z => g (by omega)⟩⟩⟩⟩⟩⟩⟩⟩⟩⟩⟩⟩⟩⟩⟩
          exact end1 0 hpk (TR_ns (by omega))
        have two : ∀ s : Int, 0 < s → ¬ pairK (c p) (chf c n ((p : Int) + 1)) = 1 → TokRel (pairK (c p) (chf c n ((p : Int) + 1))) (v7 c n p) 4 s 0 → Wp m_M_oneToken 376 [(0, vr 78), (1, vi (p : Int)), (2, vi (c p)), (3, vi ((p : Int) + 1))] [vi s] (0, 0) w (fun r w' => ∃ y, r = some (vi y) ∧ K y w') := by
          intro s hs hpk hT
          rw [if_neg hpk] at hk hE
          have g0 : ∀ s0 : Int, Wp m_M_oneToken 473 [(0, vr 78), (1, vi (p : Int)), (2, vi (c p)), (3, vi ((p : Int) + 1)), (7, vi s)] [vi s0] (0, 0) w (fun r w' => ∃ y, r = some (vi y) ∧ K y w') := by
            intro s0
            refine t_M_oneToken_473 ⟨fun _ => ⟨fun z => by omega, fun _ => s_M_token hc ⟨fun z => by omega, fun _ => ⟨⟨by omega, by omega⟩, ?_⟩⟩⟩, fun z => absurd hs z⟩
            have := h 4 s 0 _ (by rw [hk]; exact hT) rfl
            rw [hE] at this
            rw [show (p : Int) + 1 + 1 = ((p + 2 : Nat) : Int) by omega]
            exact kI this
          have g : Wp m_M_oneToken 468 [(0, vr 78), (1, vi (p : Int)), (2, vi (c p)), (3, vi ((p : Int) + 1)), (7, vi s)] [] (0, 0) w (fun r w' => ∃ y, r = some (vi y) ∧ K y w') := t_M_oneToken_468 (g0 1)
          exact t_M_oneToken_376 ⟨fun z => g, fun z1 => ⟨fun z => g, fun z2 => ⟨fun z => g, fun z3 => ⟨fun z => g, fun z4 => ⟨fun z => g, fun z5 => ⟨fun z => g, fun z6 => ⟨fun z => g, fun z7 => ⟨fun z => g, fun z8 => ⟨fun z => g, fun z9 => ⟨fun z => g, fun z10 => ⟨fun z => g, fun z11 => ⟨fun z => g, fun z12 => ⟨fun z => g, fun z13 => ⟨fun z => g, fun z14 => ⟨fun z15 => g0 0, fun z => g⟩⟩⟩⟩⟩⟩⟩⟩⟩⟩⟩⟩⟩⟩⟩
        refine s_M_see (p := p + 1) ht ?_
        rw [show ((p + 1 : Nat) : Int) = (p : Int) + 1 from rfl]
        generalize hd : chf c n ((p : Int) + 1) = d at *
        have p356 : ¬ (c p = 58 ∧ d = 45) → ¬ (c p = 33 ∧ d = 61) → ¬ (c p = 60 ∧ d = 61) → Wp m_M_oneToken 356 [(0, vr 78), (1, vi (p : Int)), (2, vi (c p)), (3, vi ((p : Int) + 1)), (6, vi d)] [] (0, 0) w (fun r w' => ∃ y, r = some (vi y) ∧ K y w') := by
          intro a1 a2 a3
          refine t_M_oneToken_356 ⟨fun b1 => t_M_oneToken_375 (one0 ?_), fun b1 => ⟨fun b2 => t_M_oneToken_375 (one0 ?_), fun b2 => ?_⟩⟩
          · unfold pairK; rw [if_neg a1, if_neg (by omega)]
          · unfold pairK; rw [if_neg a1, if_neg (by omega)]
          · have e : pairK (c p) d = 13 := by unfold pairK; rw [if_neg a1, if_pos (by omega)]
            exact two 303 (by decide) (by rw [e]; decide) (by rw [e]; unfold TokRel; simp)
        have p337 : ¬ (c p = 58 ∧ d = 45) → ¬ (c p = 33 ∧ d = 61) → Wp m_M_oneToken 337 [(0, vr 78), (1, vi (p : Int)), (2, vi (c p)), (3, vi ((p : Int) + 1)), (6, vi d)] [] (0, 0) w (fun r w' => ∃ y, r = some (vi y) ∧ K y w') := by
          intro a1 a2
          refine t_M_oneToken_337 ⟨fun b1 => p356 a1 a2 (by omega), fun b1 => ⟨fun b2 => p356 a1 a2 (by omega), fun b2 => ?_⟩⟩
          have e : pairK (c p) d = 13 := by unfold pairK; rw [if_neg a1, if_pos (by omega)]
          exact two 302 (by decide) (by rw [e]; decide) (by rw [e]; unfold TokRel; simp)
        have p318 : ¬ (c p = 58 ∧ d = 45) → Wp m_M_oneToken 318 [(0, vr 78), (1, vi (p : Int)), (2, vi (c p)), (3, vi ((p : Int) + 1)), (6, vi d)] [] (0, 0) w (fun r w' => ∃ y, r = some (vi y) ∧ K y w') := by
          intro a1
          refine t_M_oneToken_318 ⟨fun b1 => p337 a1 (by omega), fun b1 => ⟨fun b2 => p337 a1 (by omega), fun b2 => ?_⟩⟩
          have e : pairK (c p) d = 13 := by unfold pairK; rw [if_neg a1, if_pos (by omega)]
          exact two 301 (by decide) (by rw [e]; decide) (by rw [e]; unfold TokRel; simp)
        refine ⟨fun b1 => p318 (by omega), fun b1 => ⟨fun b2 => p318 (by omega), fun b2 => ?_⟩⟩
        have e : pairK (c p) d = 11 := by unfold pairK; rw [if_pos ⟨b1, b2⟩]
        exact two 300 (by decide) (by rw [e]; decide) (by rw [e]; unfold TokRel; simp)
      · -- variables
        have h3 := Decidable.of_not_not h3
        have so : sortOf (c p) = 2 := by unfold sortOf; rw [if_neg h2, if_pos h3]
        have hk : kd c n p = if endE (fS 7) c n p - p ≤ 4 then 3 else 1 := by
          unfold kd; rw [so]; rfl
        have hv : v7 c n p = if endE (fS 7) c n p - p ≤ 4 then ((pkT 128 c (endE (fS 7) c n p - p) p 0 : Nat) : Int) else 0 := by
          unfold v7; rw [so]; rfl
        have hE : tkEnd c n p = endE (fS 7) c n p := by
          unfold tkEnd; rw [so]; rfl
        have hf : fS 7 (c p) = true := by rw [(fS_v _).2.2]; simp [h3.1, h3.2]
        have hle := endE_le (f := fS 7) (c := c) (n := n) n p (by omega) (by omega)
        rw [hE] at h
        rw [toN (show 0 ≤ c p by omega)]
        refine l_one_225 ht hp hc (endE (fS 7) c n p) (fun h4 w' hw => ?_) (fun h4 v w' hw => ?_) n (p + 1) (c p).toNat (by omega) (by omega) (by omega) (endE_go hp hf).symm ?_
        · rw [if_pos h4] at hk hv
          refine kI (h _ _ _ _ ?_ hw)
          rw [hk, hv]
          have hc2 : ∀ i, p ≤ i → i < p + (endE (fS 7) c n p - p) → (c i).toNat < 128 := fun i h5 h6 => by have := MtR_ch ht (p := i) (by omega); omega
          have h7 := cN_pk (c := c) (endE (fS 7) c n p - p) p 0 (6 - (endE (fS 7) c n p - p)) hc2
          rw [cN_z, show 6 - (endE (fS 7) c n p - p) + (endE (fS 7) c n p - p) = 6 by omega] at h7
          have h8 := pkT_lt (B := 128) (c := c) (endE (fS 7) c n p - p) p hc2
          have h9 : 128 ^ (endE (fS 7) c n p - p) ≤ 128 ^ 4 := Nat.pow_le_pow_right (by decide) h4
          exact TR_vr (by unfold c8; rw [← h7]; rfl) ⟨by omega, by omega⟩
        · rw [if_neg h4] at hk
          refine kI (h _ _ _ _ ?_ hw)
          rw [hk]
          exact TR_bad
        · rw [show min (p + 1 - p) 5 = 1 by omega, pk1]
    · -- names
      have h2 := Decidable.of_not_not h2
      have so : sortOf (c p) = 1 := by unfold sortOf; rw [if_pos h2]
      have hE : tkEnd c n p = endE (fS 5) c n p := by
        unfold tkEnd; rw [so]; rfl
      have hf : fS 5 (c p) = true := by rw [(fS_v _).2.1]; simp [h2.1, h2.2]
      have hgo := endE_go hp hf
      have hle := endE_le (f := fS 5) (c := c) (n := n) n p (by omega) (by omega)
      have hle2 := endE_le (f := fS 5) (c := c) (n := n) n (p + 1) (by omega) (by omega)
      have hk : kd c n p = if endE (fS 5) c n p - p ≤ 6 then (if totOf c p (endE (fS 5) c n p) ≤ 0 then (if spP c p (endE (fS 5) c n p) 4 then 16 else 2) else 17) else 1 := by
        unfold kd; rw [so]; rfl
      have hv7 : v7 c n p = if endE (fS 5) c n p - p ≤ 6 then (if totOf c p (endE (fS 5) c n p) ≤ 0 then (if spP c p (endE (fS 5) c n p) 4 then 0 else ((pkT 128 c (endE (fS 5) c n p - p) p 0 : Nat) : Int)) else totOf c p (endE (fS 5) c n p)) else 0 := by
        unfold v7; rw [so]; rfl
      rw [hE] at h
      rw [toN (show 0 ≤ c p by omega)]
      refine l_one_110 ht hp (endE (fS 5) c n p) (fun v hv => ?_) n (p + 1) (c p).toNat (by omega) (by omega) (by omega) hgo.symm (by rw [show min (p + 1 - p) 7 = 1 by omega, pk1])
      rw [← hgo] at hle2
      have hc2 : ∀ i, p ≤ i → i < endE (fS 5) c n p → 32 ≤ c i ∧ c i ≤ 126 := fun i h5 h6 => MtR_ch ht (p := i) (by omega)
      rw [one_nm (by omega) hv hc2]
      have htr := tot_rng (c := c) (p := p) (e := endE (fS 5) c n p)
      have sp5 : ∀ i, i < 5 → spP c p (endE (fS 5) c n p) i → endE (fS 5) c n p - p ≤ 5 := fun i hi z => by
        have := stN5 i hi
        have := z.1
        omega
      generalize endE (fS 5) c n p = e at *
      by_cases ht0 : 0 < totOf c p e
      · have h6 : e - p ≤ 6 := by
          have : e - p ≤ 5 := by
            unfold totOf at ht0
            by_cases k0 : spP c p e 0
            · exact sp5 0 (by decide) k0
            · rw [if_neg k0] at ht0
              by_cases k1 : spP c p e 1
              · exact sp5 1 (by decide) k1
              · rw [if_neg k1] at ht0
                by_cases k2 : spP c p e 2
                · exact sp5 2 (by decide) k2
                · rw [if_neg k2] at ht0
                  by_cases k3 : spP c p e 3
                  · exact sp5 3 (by decide) k3
                  · rw [if_neg k3] at ht0
                    exact absurd ht0 (by decide)
          omega
        rw [if_pos h6, if_neg (by omega)] at hk hv7
        rw [if_pos ht0]
        refine t_M_oneToken_181 ⟨fun z => by omega, fun _ => s_M_token hc (kI (h _ _ _ _ ?_ rfl))⟩
        rw [hk, hv7]
        exact TR_to rfl (by omega)
      · rw [if_neg ht0]
        by_cases k4 : spP c p e 4
        · have h6 := sp5 4 (by decide) k4
          rw [if_pos (by omega), if_pos (by omega), if_pos k4] at hk hv7
          rw [if_pos k4]
          refine t_M_oneToken_181 ⟨fun z => absurd z (by decide), fun _ => s_M_token hc (kI (h _ _ _ _ ?_ rfl))⟩
          rw [hk]
          exact TR_is
        · rw [if_neg k4]
          refine t_M_oneToken_181 ⟨fun _ => ⟨⟨by omega, by omega⟩, fun h6 => s_M_token hc (kI (h _ _ _ _ ?_ rfl)), fun h6 => s_M_token hc (kI (h _ _ _ _ ?_ rfl))⟩, fun z => absurd (Int.le_refl 0) z⟩
          · rw [if_pos (by omega), if_pos (by omega), if_neg k4] at hk hv7
            rw [hk, hv7]
            have hc3 : ∀ i, p ≤ i → i < p + (e - p) → (c i).toNat < 128 := fun i h5 h6 => by have := hc2 i h5 (by omega); omega
            have h7 := cN_pk (c := c) (e - p) p 0 (6 - (e - p)) hc3
            rw [cN_z, show 6 - (e - p) + (e - p) = 6 by omega] at h7
            have h8 := pkT_lt (B := 128) (c := c) (e - p) p hc3
            have h9 : 128 ^ (e - p) ≤ 128 ^ 6 := Nat.pow_le_pow_right (by decide) (by omega)
            refine TR_nm ?_ ⟨by omega, by omega⟩
            rw [hv (by omega)]
            unfold c8
            rw [← h7]; rfl
          · rw [if_neg (by omega)] at hk
            rw [hk]
            exact TR_bad
  · -- numbers
    have h1 := Decidable.of_not_not h1
    have so : sortOf (c p) = 4 := by unfold sortOf; rw [if_neg (by omega), if_neg (by omega), if_pos h1]
    have hk : kd c n p = if endE (fS 4) c n p - p ≤ 9 then 4 else 1 := by
      unfold kd; rw [so]; rfl
    have hv : v7 c n p = if endE (fS 4) c n p - p ≤ 9 then ((nmA c (endE (fS 4) c n p - p) p 0 : Nat) : Int) else 0 := by
      unfold v7; rw [so]; rfl
    have hE : tkEnd c n p = endE (fS 4) c n p := by
      unfold tkEnd; rw [so]; rfl
    have hf : fS 4 (c p) = true := by rw [(fS_v _).1]; simp [h1.1, h1.2]
    have hle := endE_le (f := fS 4) (c := c) (n := n) n p (by omega) (by omega)
    rw [hE] at h
    refine ⟨⟨by omega, by omega⟩, ?_⟩
    rw [toN (show 0 ≤ c p - 48 by omega)]
    refine l_one_29 ht hp hc (endE (fS 4) c n p) (fun h4 w' hw => ?_) (fun h4 v w' hw => ?_) n (p + 1) (c p - 48).toNat (by omega) (by omega) (by omega) (endE_go hp hf).symm ?_ (by omega) (fun i h5 h6 => by rw [show i = p by omega]; exact h1)
    · rw [if_pos h4] at hk hv
      refine kI (h _ _ _ _ ?_ hw)
      rw [hk, hv]
      have hd : ∀ i, p ≤ i → i < p + (endE (fS 4) c n p - p) → 48 ≤ c i ∧ c i ≤ 57 := fun i h5 h6 => fS4 (endE_all (f := fS 4) (c := c) (n := n) n p (by omega) i h5 (by omega))
      have h8 := nmA_lt (c := c) (endE (fS 4) c n p - p) p hd
      have h9 := p10 h4
      exact TR_nu rfl ⟨by omega, by omega⟩
    · rw [if_neg h4] at hk
      refine kI (h _ _ _ _ ?_ hw)
      rw [hk]
      exact TR_bad
    · rw [show min (p + 1 - p) 9 = 1 by omega]
      simp [nmA]
