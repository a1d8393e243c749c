/-! literal of the class -/
theorem d_literal {s : PSt} {f : Int × Int} {c : Nat → Int} {n : Nat} {r i x : Int} {w : Wo} {Q : Option AV → Wo → Prop} (hC : CI s f c n w) (hW : PW s) (h0 : liA s r i x = none → Q (some (vr 37)) w ∧ Q (some (vr 149)) w) (h1 : ∀ v, liA s r i x = some v → Q (some (vi v)) w) : Wp m_D_literal 0 [(0, vr 1), (1, vi r), (2, vi i), (3, vi x)] [] (0, 0) w Q := by
  obtain ⟨b, b', h2, h3, h4, h5, h6, h7⟩ := hC.2.1
  obtain ⟨a, ha, W, hf⟩ := hW
  have hl30 := W.2.2.1
  have hc : gI w (b + 1) 0 = (s.2.1.length : Int) := h7.2.2.2.1
  refine t_D_literal_0 ?_
  rw [h5, hc]
  refine ⟨fun z => (h0 (if_neg (by omega))).1, fun z => ⟨fun z2 => (h0 (if_neg (by omega))).1, fun z2 => ⟨fun z3 => (h0 (if_neg (by omega))).1, fun z3 => ⟨⟨by omega, by omega⟩, ?_⟩⟩⟩⟩
  have hr := getD_ru (R := s.2.1) (i := r.toNat) (by omega)
  unfold liA at h0 h1
  generalize s.2.1.getD r.toNat dfR = rr at hr h0 h1
  obtain ⟨r1, r2, r3, r4, r5, r6, r7⟩ := h7.2.2.2.2 r.toNat rr hr
  obtain ⟨u1, u2, u3, u4, u5, u6, u7, u8, u9, u10, u11, -⟩ := W.2.2.2.1 rr (List.mem_of_getElem? hr)
  have hfull := W.2.2.2.2.2.2 hf rr (List.mem_of_getElem? hr)
  have e2 : gI w (b + 1 + 2) r.toNat = (rr.2.2.2.2.length : Int) := r2
  rw [e2]
  refine ⟨fun z4 => ?_, fun z4 => (h0 (if_neg (by omega))).1⟩
  have hrow := getD_row (R := (plan rr.2.2.2.2 rr.2.2.2.2.length).2.2) (i := i.toNat) (by omega)
  have hrr := plan_row hrow
  obtain ⟨y1, y2, y3⟩ := r7 i.toNat _ hrow
  have hA : 0 ≤ x → x ≤ 4 → Q (some (vi (liV rr i.toNat x))) w := fun x0 x4 => h1 _ (if_pos ⟨by omega, by omega, by omega, by omega, x0, x4⟩)
  have hN : ¬ (0 ≤ x ∧ x ≤ 4) → Q (some (vr 149)) w := fun q => (h0 (if_neg (fun q2 => q ⟨q2.2.2.2.2.1, q2.2.2.2.2.2⟩))).2
  unfold liV at hA
  clear h0 h1
  generalize (plan rr.2.2.2.2 rr.2.2.2.2.length).2.2.getD i.toNat (0, 0, 0) = row at *
  have hkl : row.1.toNat < rr.2.2.2.2.length := by omega
  have hL := getD_at hkl
  obtain ⟨k1, k2, k3⟩ := r6 row.1.toNat _ hL
  generalize rr.2.2.2.2.getD row.1.toNat dfL = L at *
  have en : (r * 6 + i).toNat = 6 * r.toNat + i.toNat := by omega
  have ew : (r * 6 + row.1).toNat = 6 * r.toNat + row.1.toNat := by omega
  have ea : gI w (b + 1 + 9) (6 * r.toNat + i.toNat) = row.1 := y1
  have eb : gI w (b + 1 + 10) (6 * r.toNat + i.toNat) = row.2.1 := y2
  have ec : gI w (b + 1 + 11) (6 * r.toNat + i.toNat) = row.2.2 := y3
  have ed : gI w (b + 1 + 6) (6 * r.toNat + row.1.toNat) = L.1 := k1
  have ee : gI w (b + 1 + 7) (6 * r.toNat + row.1.toNat) = L.2.2.1 := k2
  rw [en, ea, eb, ec, ew, ed, ee]
  refine ⟨⟨by omega, by omega⟩, ⟨by omega, by omega⟩, ⟨by omega, by omega⟩, ⟨by omega, by omega⟩, ⟨by omega, by omega⟩, fun y => ⟨⟨by omega, by omega⟩, ?_⟩, fun y => ⟨⟨by omega, by omega⟩, ?_⟩, fun y => ⟨⟨by omega, by omega⟩, ?_⟩, fun y => ⟨⟨by omega, by omega⟩, ?_⟩, fun y => ⟨⟨by omega, by omega⟩, ?_⟩, fun y0 y1 y2 y3 y4 => hN (by omega)⟩
  · have h := hA (by omega) (by omega)
    rw [if_pos y] at h; exact h
  · have h := hA (by omega) (by omega)
    rw [if_neg (by omega), if_pos y] at h; exact h
  · have h := hA (by omega) (by omega)
    rw [if_neg (by omega), if_neg (by omega), if_pos y] at h; exact h
  · have h := hA (by omega) (by omega)
    rw [if_neg (by omega), if_neg (by omega), if_neg (by omega), if_pos y] at h; exact h
  · have h := hA (by omega) (by omega)
    rw [if_neg (by omega), if_neg (by omega), if_neg (by omega), if_neg (by omega)] at h; exact h
theorem s_D_literalR {s : PSt} {f : Int × Int} {c : Nat → Int} {n : Nat} {r i x v : Int} {w : Wo} {K : Int → Wo → Prop} (hC : CI s f c n w) (hW : PW s) (e : liA s r i x = some v) (h : K v w) : MetI m_D_literal [vr 1, vi r, vi i, vi x] w K :=
  met_ofR (by decide) rfl (fun q w' z => by obtain ⟨x, z, -⟩ := z; cases z) (Nat.le_of_ble_eq_true rfl) (d_literal hC hW (fun e2 => by rw [e] at e2; cases e2) (fun v2 e2 => by rw [e] at e2; cases e2; exact kI h))
theorem s_D_literalT {s : PSt} {f : Int × Int} {c : Nat → Int} {n : Nat} {r i x : Int} {w : Wo} {Qw : Wo → Prop} (hC : CI s f c n w) (hW : PW s) (e : liA s r i x = none) (h : Qw w) : MetTS m_D_literal [vr 1, vi r, vi i, vi x] w "java/util/NoSuchElementException" Qw :=
  met_ofT (by decide) exk_NS rfl ⟨rfl, rfl, by decide, by decide⟩ (Nat.le_of_ble_eq_true rfl) (d_literal hC hW (fun _ => ⟨⟨37, rfl, thr_lit0, h⟩, ⟨149, rfl, thr_lit1, h⟩⟩) (fun v2 e2 => by rw [e] at e2; cases e2))
