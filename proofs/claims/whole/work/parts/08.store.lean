section Rows
variable {b bF : Bool} {m : MR} {pc : Nat} {L L' : List (Nat × AV)} {S : List AV} {k : Nat × Nat} {w : Wo} {Q : Option AV → Wo → Prop}
/-- the list of cells behind a write into an array of ints -/
theorem wL_upd {G : Gh} {w w' : Wo} {a : Nat} {e : va_E} (h0 : 0 < a) (hn : wn w' = wn w) (he : cE G w' a = e) (hs : ∀ o, wsh w' o = wsh w o) (hsame : ∀ o i, o ≠ a → gI w' o i = gI w o i ∧ gJ w' o i = gJ w o i ∧ gP w' o i = gP w o i) : (wL G w).set (a - 1) (gB G + a, e) = wL G w' :=
  wL_set h0 hn he (fun o ho => cE_congr (hs o) (fun i => (hsame o i ho).1) (fun i => (hsame o i ho).2.1) (fun i => (hsame o i ho).2.2))
theorem upI {w : Wo} {a n : Nat} {x : Int} : (fun j => Int32.ofInt (gI (uI w a n x) a j)) = upd (fun j => Int32.ofInt (gI w a j)) n (Int32.ofInt x) := by
  funext j
  unfold upd
  rw [gI_uI]
  by_cases hj : j = n
  · rw [if_pos ⟨rfl, hj⟩, if_pos hj]
  · rw [if_neg (fun z => hj z.2), if_neg hj]
theorem upJ {w : Wo} {a n : Nat} {x : Int} : (fun j => Int64.ofInt (gJ (uJ w a n x) a j)) = vp_updL (fun j => Int64.ofInt (gJ w a j)) n (Int64.ofInt x) := by
  funext j
  unfold vp_updL
  rw [gJ_uJ]
  by_cases hj : j = n
  · rw [if_pos ⟨rfl, hj⟩, if_pos hj]
  · rw [if_neg (fun z => hj z.2), if_neg hj]
theorem wL_uI {G : Gh} {w : Wo} {a t n : Nat} {x : Int} (h0 : 0 < a) (ht : (wsh w a).1 = t) (h2 : t = 1 ∨ t = 3 ∨ t = 4) : (wL G w).set (a - 1) (gB G + a, .inl (gC G t, (wsh w a).2, .inl (upd (fun j => Int32.ofInt (gI w a j)) n (Int32.ofInt x)))) = wL G (uI w a n x) := by
  refine wL_upd h0 rfl ?_ (fun _ => rfl) (fun o i ho => ⟨up2_ne (fun z => ho z.1), rfl, rfl⟩)
  unfold cE
  have hs : wsh (uI w a n x) a = wsh w a := rfl
  rw [hs, ht]
  rcases h2 with rfl | rfl | rfl <;> (rw [← upI]; rfl)
theorem wL_uJ {G : Gh} {w : Wo} {a n : Nat} {x : Int} (h0 : 0 < a) (ht : (wsh w a).1 = 2) : (wL G w).set (a - 1) (gB G + a, .inl (gC G 2, (wsh w a).2, .inr (.inl (vp_updL (fun j => Int64.ofInt (gJ w a j)) n (Int64.ofInt x))))) = wL G (uJ w a n x) := by
  refine wL_upd h0 rfl ?_ (fun _ => rfl) (fun o i ho => ⟨rfl, up2_ne (fun z => ho z.1), rfl⟩)
  unfold cE
  have hs : wsh (uJ w a n x) a = wsh w a := rfl
  rw [hs, ht, ← upJ]
  rfl
theorem nar_b {x : Int} (h : -128 ≤ x ∧ x < 128) : vp_nar .byte (Int32.ofInt x) = Int32.ofInt x := by
  rw [vp_nar_byte, ← Int32.toInt_inj, Int8.toInt_toInt32, Int32.toInt_toInt8, Int32.toInt_ofInt_of_le (by omega) (by omega)]
  exact Int.bmod_eq_of_le (by omega) (by omega)
theorem nar_zz {x : Int} (h : x = 0 ∨ x = 1) : vp_nar .boolean (Int32.ofInt x) = Int32.ofInt x := by
  rcases h with rfl | rfl <;> decide
theorem wp_iastore {a : Nat} {i x : Int} (hd : decode (cd m) pc = .ok (.iastore, 1)) (ha : inA w a 1 i) (h : ∀ w', w' = uI w a i.toNat x → WpG true bF m (pc + 1) L S k w' Q) : WpG true bF m pc L (vi x :: vi i :: vr a :: S) k w Q := fun p l e s mm args below meth c G n0 Z H locs ls X Y => by
  obtain ⟨h1, h2, h3⟩ := inA_a ha
  have hq1 : a ≤ 1000 := Nat.le_trans ha.2.1 Y.2.2.2.2.2.2.2.2.2
  rw [List.map_cons, List.map_cons, mp_ref ha.1 hq1]
  refine va_iast X.1 X.2.1 X.2.2.2.2.2.1.1 Y.2.2.2.1 (wL_D Y.2.2.2.2.2.2.2.2.1) Y.2.2.2.2.2.2.1 (a - 1) 0 (cE_int ha.1 ha.2.1 ha.2.2.1 (Or.inl rfl)) rfl h2 hd (fun H1 locs1 hP hD hS => ?_)
  rw [h3, wL_uI ha.1 ha.2.2.1 (Or.inl rfl)] at hP
  exact h _ rfl p l e s mm args below meth c G n0 Z H1 locs1 ls X (Y.put hP hS (Y.2.2.2.2.1.uI (okv_hd Y.2.2.1)) Y.2.2.2.2.2.1 rfl (okv_tl (okv_tl (okv_tl Y.2.2.1))))
theorem wp_bastore {a : Nat} {i x : Int} (hd : decode (cd m) pc = .ok (.bastore, 1)) (ha : inA w a 3 i) (hx : -128 ≤ x ∧ x < 128) (h : ∀ w', w' = uI w a i.toNat x → WpG true bF m (pc + 1) L S k w' Q) : WpG true bF m pc L (vi x :: vi i :: vr a :: S) k w Q := fun p l e s mm args below meth c G n0 Z H locs ls X Y => by
  obtain ⟨h1, h2, h3⟩ := inA_a ha
  have hq1 : a ≤ 1000 := Nat.le_trans ha.2.1 Y.2.2.2.2.2.2.2.2.2
  rw [List.map_cons, List.map_cons, mp_ref ha.1 hq1]
  refine va_bast X.1 X.2.1 X.2.2.2.2.2.1.1 Y.2.2.2.1 (wL_D Y.2.2.2.2.2.2.2.2.1) Y.2.2.2.2.2.2.1 (a - 1) 2 (cE_int ha.1 ha.2.1 ha.2.2.1 (Or.inr (Or.inl rfl))) rfl h2 hd (fun H1 locs1 hP hD hS => ?_)
  rw [h3, nar_b hx, wL_uI ha.1 ha.2.2.1 (Or.inr (Or.inl rfl))] at hP
  exact h _ rfl p l e s mm args below meth c G n0 Z H1 locs1 ls X (Y.put hP hS (Y.2.2.2.2.1.uI (okv_hd Y.2.2.1)) Y.2.2.2.2.2.1 rfl (okv_tl (okv_tl (okv_tl Y.2.2.1))))
theorem wp_zastore {a : Nat} {i x : Int} (hd : decode (cd m) pc = .ok (.bastore, 1)) (ha : inA w a 4 i) (hx : x = 0 ∨ x = 1) (h : ∀ w', w' = uI w a i.toNat x → WpG true bF m (pc + 1) L S k w' Q) : WpG true bF m pc L (vi x :: vi i :: vr a :: S) k w Q := fun p l e s mm args below meth c G n0 Z H locs ls X Y => by
  obtain ⟨h1, h2, h3⟩ := inA_a ha
  have hq1 : a ≤ 1000 := Nat.le_trans ha.2.1 Y.2.2.2.2.2.2.2.2.2
  rw [List.map_cons, List.map_cons, mp_ref ha.1 hq1]
  refine va_zast X.1 X.2.1 X.2.2.2.2.2.1.1 Y.2.2.2.1 (wL_D Y.2.2.2.2.2.2.2.2.1) Y.2.2.2.2.2.2.1 (a - 1) 3 (cE_int ha.1 ha.2.1 ha.2.2.1 (Or.inr (Or.inr rfl))) rfl h2 hd (fun H1 locs1 hP hD hS => ?_)
  rw [h3, nar_zz hx, wL_uI ha.1 ha.2.2.1 (Or.inr (Or.inr rfl))] at hP
  exact h _ rfl p l e s mm args below meth c G n0 Z H1 locs1 ls X (Y.put hP hS (Y.2.2.2.2.1.uI (okv_hd Y.2.2.1)) Y.2.2.2.2.2.1 rfl (okv_tl (okv_tl (okv_tl Y.2.2.1))))
theorem wp_lastore {a : Nat} {i x : Int} (hd : decode (cd m) pc = .ok (.lastore, 1)) (ha : inA w a 2 i) (h : ∀ w', w' = uJ w a i.toNat x → WpG true bF m (pc + 1) L S k w' Q) : WpG true bF m pc L (vl x :: vi i :: vr a :: S) k w Q := fun p l e s mm args below meth c G n0 Z H locs ls X Y => by
  obtain ⟨h1, h2, h3⟩ := inA_a ha
  have hq1 : a ≤ 1000 := Nat.le_trans ha.2.1 Y.2.2.2.2.2.2.2.2.2
  rw [List.map_cons, List.map_cons, mp_ref ha.1 hq1]
  refine va_last X.1 X.2.1 X.2.2.2.2.2.1.1 Y.2.2.2.1 (wL_D Y.2.2.2.2.2.2.2.2.1) Y.2.2.2.2.2.2.1 (a - 1) 1 (cE_long ha.1 ha.2.1 ha.2.2.1) rfl h2 hd (fun H1 locs1 hP hD hS => ?_)
  rw [h3, wL_uJ ha.1 ha.2.2.1] at hP
  exact h _ rfl p l e s mm args below meth c G n0 Z H1 locs1 ls X (Y.put hP hS (Y.2.2.2.2.1.uJ (okv_hd Y.2.2.1)) Y.2.2.2.2.2.1 rfl (okv_tl (okv_tl (okv_tl Y.2.2.1))))
theorem wp_alen {a t n : Nat} (hd : decode (cd m) pc = .ok (.arraylength, 1)) (ha : oq w a (t, n)) (ht : t = 1 ∨ t = 2 ∨ t = 3 ∨ t = 4 ∨ t = 5) (hn : n < 2147483648) (h : WpG b bF m (pc + 1) L (vi (n : Int) :: S) k w Q) : WpG b bF m pc L (vr a :: S) k w Q := fun p l e s mm args below meth c G n0 Z H locs ls X Y => by
  have hq1 : a ≤ 1000 := Nat.le_trans ha.2.1 Y.2.2.2.2.2.2.2.2.2
  have hh := h p l e s mm args below meth c G n0 Z H locs ls X (Y.stk (okv_cons (show inr32 (n : Int) from ⟨by omega, by omega⟩) (okv_tl Y.2.2.1)))
  have e1 : (wsh w a).1 = t := by rw [ha.2.2]
  have e2 : (wsh w a).2 = n := by rw [ha.2.2]
  rw [mp_ref ha.1 hq1]
  have e3 : Int32.ofNat n = Int32.ofInt (n : Int) := (Int32.ofInt_eq_ofNat).symm
  rcases ht with rfl | rfl | rfl | rfl | rfl
  · have h9 := cE_int (G := G) ha.1 ha.2.1 e1 (Or.inl rfl)
    rw [e2] at h9
    exact va_alen X.1 X.2.1 X.2.2.2.2.2.1.1 Y.2.2.2.1 (a - 1) 0 h9 rfl e3 hd hh
  · have h9 := cE_long (G := G) ha.1 ha.2.1 e1
    rw [e2] at h9
    exact va_alen X.1 X.2.1 X.2.2.2.2.2.1.1 Y.2.2.2.1 (a - 1) 1 h9 rfl e3 hd hh
  · have h9 := cE_int (G := G) ha.1 ha.2.1 e1 (Or.inr (Or.inl rfl))
    rw [e2] at h9
    exact va_alen X.1 X.2.1 X.2.2.2.2.2.1.1 Y.2.2.2.1 (a - 1) 2 h9 rfl e3 hd hh
  · have h9 := cE_int (G := G) ha.1 ha.2.1 e1 (Or.inr (Or.inr rfl))
    rw [e2] at h9
    exact va_alen X.1 X.2.1 X.2.2.2.2.2.1.1 Y.2.2.2.1 (a - 1) 3 h9 rfl e3 hd hh
  · have h9 := cE_refs (G := G) ha.1 ha.2.1 e1
    rw [e2] at h9
    exact va_alen X.1 X.2.1 X.2.2.2.2.2.1.1 Y.2.2.2.1 (a - 1) 4 h9 rfl e3 hd hh
end Rows
