/-! the world that the constructors leave (by program) -/
def GW (w : Wo) : Prop := (∀ q, wn w < q → wsh w q = (9, 0)) ∧ (∀ o k, gI w o k = 0) ∧ ∀ o k, gJ w o k = 0
theorem GW.uP {w : Wo} {o k v : Nat} (h : GW w) : GW (uP w o k v) := h
theorem GW.nw {w : Wo} {sh : Nat × Nat} (h : GW w) : GW (nw w sh) := by
  refine ⟨fun q hq => ?_, fun o k => ?_, fun o k => ?_⟩
  · have h1 : w.1 + 1 < q := hq
    show (if q = w.1 + 1 then sh else w.2.1 q) = _
    rw [if_neg (by omega)]
    exact h.1 q (Nat.lt_of_succ_lt h1)
  · show (if o = w.1 + 1 then 0 else w.2.2.1 o k) = 0
    split
    · rfl
    · exact h.2.1 o k
  · show (if o = w.1 + 1 then 0 else w.2.2.2.1 o k) = 0
    split
    · rfl
    · exact h.2.2 o k
theorem gw_lt {n q : Nat} {w : Wo} (h : GW w) : GW (ltW n q w) := ((((h.nw).uP).nw).uP)
theorem gw_tp {n q : Nat} {w : Wo} (h : GW w) : GW (tpW n q w) := ((h.nw).uP)
theorem gw_tk {n q : Nat} {w : Wo} (h : GW w) : GW (tkW n q w) := ((((((h.nw).uP).nw).uP).nw).uP)
theorem gw_fc {n q : Nat} {w : Wo} (h : GW w) : GW (fcW n q w) := ((((h.nw).uP).nw).uP)
theorem gw_rl {n q : Nat} {w : Wo} (h : GW w) : GW (rlW n q w) := ((((((((((((((((((((((h.nw).uP).nw).uP).nw).uP).nw).uP).nw).uP).nw).uP).nw).uP).nw).uP).nw).uP).nw).uP).nw).uP)
theorem gw_bk {n q : Nat} {w : Wo} (h : GW w) : GW (bkW n q w) := ((((((((((((((gw_rl (h.nw)).uP).nw).uP).nw).uP).nw).uP).nw).uP).nw).uP).nw).uP)
theorem gw_cl {n q : Nat} {w : Wo} (h : GW w) : GW (clW n q w) := ((gw_lt (((gw_lt (((gw_lt (((gw_lt (((gw_lt (((gw_lt (((((((((((((((gw_lt (h.nw)).uP).nw).uP).nw).uP).nw).uP).nw).uP).nw).uP).nw).uP).nw)).uP).nw)).uP).nw)).uP).nw)).uP).nw)).uP).nw)).uP)
theorem gw_rd {n q : Nat} {w : Wo} (h : GW w) : GW (rdW n q w) := ((gw_fc (((gw_cl (((gw_tk (h.nw)).uP).nw)).uP).nw)).uP)
theorem gw_d {n q : Nat} {w : Wo} (h : GW w) : GW (dW n q w) := ((gw_bk (((gw_bk (((gw_rd (((gw_tp (h.nw)).uP).nw)).uP).nw)).uP).nw)).uP)
theorem gw_m {n q : Nat} {w : Wo} (h : GW w) : GW (mW n q w) := ((((((((((((((((((((((((((((((((((((((((((((((((((((((((((((((((((((((((((((h.nw).uP).nw).uP).nw).uP).nw).uP).nw).uP).nw).uP).nw).uP).nw).uP).nw).uP).nw).uP).nw).uP).nw).uP).nw).uP).nw).uP).nw).uP).nw).uP).nw).uP).nw).uP).nw).uP).nw).uP).nw).uP).nw).uP).nw).uP).nw).uP).nw).uP).nw).uP).nw).uP).nw).uP).nw).uP).nw).uP).nw).uP).nw).uP).nw).uP).nw).uP).nw).uP).nw).uP).nw).uP).nw).uP)
def v0 : Wo := (0, fun _ => (9, 0), fun _ _ => 0, fun _ _ => 0, fun _ _ => 0)
theorem gw_v0 : GW v0 := ⟨fun _ _ => rfl, fun _ _ => rfl, fun _ _ => rfl⟩
def w_D : Wo := dW 1 1 (nw v0 (0, 8))
def w_M : Wo := mW 78 78 (nw w_D (0, 9))
def WF : Wo := nw w_M (2, 1)
theorem gw_WF : GW WF := ((gw_m ((gw_d (gw_v0.nw)).nw)).nw)
theorem wn_D : wn w_D = 77 := by decide +kernel
theorem wn_M : wn w_M = 116 := by decide +kernel
theorem ly_WF : LY WF := by
  have h1 : wn WF = NN := by decide +kernel
  have h2 : ∀ q ∈ List.range 118, wsh WF q = SHf q := by decide +kernel
  refine ⟨h1, fun q => ?_, by decide +kernel, by unfold isBk; decide +kernel, by unfold isBk; decide +kernel⟩
  by_cases hq : q < 118
  · exact h2 q (List.mem_range.mpr hq)
  · rw [gw_WF.1 q (by rw [h1]; show 117 < q; omega)]
    unfold SHf
    rw [List.getD_eq_getElem?_getD, List.getElem?_eq_none (by show 118 ≤ q; omega)]
    rfl
