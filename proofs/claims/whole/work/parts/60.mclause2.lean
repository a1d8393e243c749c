/-! the reference's clause, whole -/
theorem s_M_readClause {T : Tks} {nb a sd : Nat} {s : PSt} {w : Wo} {K : Int → Wo → Prop} (hT : TOk T nb) (hW : WfS s a) (hP : PM T nb sd s a w)
    (h1 : ∀ s' a', pClause T s a = .inr (s', a') → ∀ w', PM T nb sd s' a' w' → FX (oG sd) (oGJ sd) w w' → K 1 w')
    (h0 : ∀ q, pClause T s a = .inl q → ∀ w', FPm q w' → FX (oG sd) (oGJ sd) w w' → K 0 w') : MetI m_M_readClause [vr 78] w K := by
  obtain ⟨hM, hPd, hRs, hFa⟩ := id hP
  have hsd := hPd.2.1
  have hlen := hRs.2.1
  refine met_of (by decide) rfl (Nat.le_of_ble_eq_true rfl) (t_M_readClause_0 ?_)
  rw [hPd.1, show ((sd : Int)).toNat = sd from rfl, hRs.1]
  refine ⟨⟨by omega, by omega⟩, fun z => ⟨⟨by omega, by omega⟩, ⟨by omega, by omega⟩, ⟨by omega, by omega⟩, ?_⟩, fun z => ?_⟩
  · rw [show 30 * (sd : Int) + (s.2.1.length : Int) = ((30 * sd + s.2.1.length : Nat) : Int) by omega]
    refine s_M_beginClause hM (by omega) (fun w3 m3 l3 H3 _ F3 => ?_)
    exact l_mcl (Q := fun r w' => ∃ y, r = some (vi y) ∧ K y w') hT hW hP (Or.inl ⟨rfl, by omega⟩) m3 l3 H3 F3 (fun s' a' e w' p F => kI (h1 s' a' e w' p F)) (fun q e w' p F => kI (h0 q e w' p F))
  · refine s_M_beginClause (c := 60) hM (by omega) (fun w3 m3 l3 H3 _ F3 => ?_)
    exact l_mcl (Q := fun r w' => ∃ y, r = some (vi y) ∧ K y w') hT hW hP (Or.inr ⟨rfl, by omega⟩) m3 l3 H3 F3 (fun s' a' e w' p F => kI (h1 s' a' e w' p F)) (fun q e w' p F => kI (h0 q e w' p F))
