/-! rule and literal of the reference; circles of the class -/
abbrev dfR : Rul := (0, 0, 0, 0, [])
def cirL (W : Nat → Nat → Bool) (r : Rul) : List Lit → Nat
  | [] => 0
  | L :: ls => (if L.1 = 0 ∧ lbk W r.1 L.2.2.1 = true then 1 else 0) + cirL W r ls
def ruV (s : PSt) (r : Rul) (x : Int) : Int := if x = 0 then r.1 else if x = 1 then r.2.2.2.2.length else if x = 2 then r.2.1 else if x = 3 then r.2.2.1 else (cirL (hgs s.2.1 s.1.length) r r.2.2.2.2 : Nat)
def ruA (s : PSt) (r x : Int) : Option Int := if 0 ≤ r ∧ r < (s.2.1.length : Int) ∧ 0 ≤ x ∧ x ≤ 4 then some (ruV s (s.2.1.getD r.toNat dfR) x) else none
def liV (r : Rul) (i : Nat) (x : Int) : Int :=
  if x = 0 then ((plan r.2.2.2.2 r.2.2.2.2.length).2.2.getD i (0, 0, 0)).1 else if x = 1 then (r.2.2.2.2.getD ((plan r.2.2.2.2 r.2.2.2.2.length).2.2.getD i (0, 0, 0)).1.toNat dfL).1 else if x = 2 then (r.2.2.2.2.getD ((plan r.2.2.2.2 r.2.2.2.2.length).2.2.getD i (0, 0, 0)).1.toNat dfL).2.2.1 else if x = 3 then ((plan r.2.2.2.2 r.2.2.2.2.length).2.2.getD i (0, 0, 0)).2.1 else ((plan r.2.2.2.2 r.2.2.2.2.length).2.2.getD i (0, 0, 0)).2.2
def liA (s : PSt) (r i x : Int) : Option Int := if 0 ≤ r ∧ r < (s.2.1.length : Int) ∧ 0 ≤ i ∧ i < ((s.2.1.getD r.toNat dfR).2.2.2.2.length : Int) ∧ 0 ≤ x ∧ x ≤ 4 then some (liV (s.2.1.getD r.toNat dfR) i.toNat x) else none
theorem getD_ru {R : List Rul} {i : Nat} (h : i < R.length) : R[i]? = some (R.getD i dfR) := by
  rw [List.getD_eq_getElem?_getD, List.getElem?_eq_getElem h]; rfl
theorem s_M_rule {s : PSt} {f : Int × Int} {c : Nat → Int} {n : Nat} {r x : Int} {w : Wo} {K : Int → Wo → Prop} (hR : RI s f c n w) (hW : PW s) (h1 : ∀ v w', ruA s r x = some v → RI s f c n w' → gI w' 78 0 = 0 → FX oT0 o0 w w' → K v w') (h0 : ∀ w', ruA s r x = none → RI s f c n w' → gI w' 78 0 = 1 → FX oT0 o0 w w' → K 0 w') : MetI m_M_rule [vr 78, vi r, vi x] w K := by
  obtain ⟨a, ha, W, hf⟩ := hW
  have hl16 := W.1.1
  have rs : ¬ (0 ≤ r ∧ r < (s.2.1.length : Int) ∧ 0 ≤ x ∧ x ≤ 4) → MetI m_M_raise [vr 78, vi 1] w (fun z w1 => ∃ y, (some (vi z) : Option AV) = some (vi y) ∧ K y w1) := fun q => s_M_raise (fun w' e => kI (h0 w' (if_neg q) (hR.t0 e) (by rw [e, gI_uI, if_pos ⟨rfl, rfl⟩]) (by rw [e]; exact FX.rf.uI ⟨rfl, rfl⟩)))
  obtain ⟨-, -, sd, s1, s2, s3, s4⟩ := id hR
  have hl30 := s3.2.1.2.1
  refine met_of (by decide) rfl (Nat.le_of_ble_eq_true rfl) (t_M_rule_0 ?_)
  rw [s2, show ((sd : Int)).toNat = sd from rfl, s3.2.1.1]
  refine ⟨fun z => rs (by omega), fun z => ⟨⟨by omega, by omega⟩, fun z2 => rs (by omega), fun z2 => ⟨fun z3 => rs (by omega), fun z3 => ⟨fun z4 w8 e8 => ?_, fun z4 => rs (by omega)⟩⟩⟩⟩
  have hA : ruA s r x = some (ruV s (s.2.1.getD r.toNat dfR) x) := if_pos ⟨by omega, by omega, by omega, by omega⟩
  have R8 := hR.t0 e8
  have h := h1 _ w8 hA R8 (by rw [e8, gI_uI, if_pos ⟨rfl, rfl⟩]) (by rw [e8]; exact FX.rf.uI ⟨rfl, rfl⟩)
  have g11 : gI w8 78 11 = (sd : Int) := by rw [e8, gI_uI, if_neg (by omega)]; exact s2
  have F8 : FX oT0 o0 w w8 := by rw [e8]; exact FX.rf.uI ⟨rfl, rfl⟩
  have B8 : MBk sd s w8 := s3.fx F8 (fun o k z => by obtain ⟨rfl, rfl⟩ := z; simp [bkI, rsI]) (fun o k z => z.elim)
  have E8 : BkE (hgs s.2.1 s.1.length) w8 := fun a b ha hb => by rw [F8.1 111 _ (by unfold oT0; omega)]; exact s4 a b ha hb
  have hr := getD_ru (R := s.2.1) (i := r.toNat) (by omega)
  generalize s.2.1.getD r.toNat dfR = rr at hr h
  obtain ⟨q1, q2, q3, q4, q5⟩ := B8.2.1.2.2.2 r.toNat rr hr
  obtain ⟨u1, u2, u3, u4, u5, u6, u7, u8, u9, u10, u11, -⟩ := W.2.2.2.1 rr (List.mem_of_getElem? hr)
  rw [g11]
  have lp : ∀ (m j k : Nat), rr.2.2.2.2.length - j ≤ m → j ≤ rr.2.2.2.2.length → k ≤ j → cirL (hgs s.2.1 s.1.length) rr rr.2.2.2.2 = k + cirL (hgs s.2.1 s.1.length) rr (rr.2.2.2.2.drop j) → Wp m_M_rule 56 [(0, vr 78), (2, vi x), (3, vi (30 * (sd : Int) + r)), (4, vi (k : Int)), (5, vi (6 * (30 * (sd : Int) + r) + (j : Int)))] [] (0, 0) w8 (fun r w' => ∃ y, r = some (vi y) ∧ K y w') := by
    intro m
    induction m with
    | zero =>
      intro j k hm hj hk e
      have ej : j = rr.2.2.2.2.length := by omega
      rw [ej, List.drop_length] at e
      have e : cirL (hgs s.2.1 s.1.length) rr rr.2.2.2.2 = k := e
      refine t_M_rule_56 ?_
      rw [show (30 * (sd : Int) + r).toNat = 30 * sd + r.toNat by omega, q5.1, q1, q2, q3]
      unfold ruV at h
      refine ⟨⟨by omega, by omega⟩, ⟨by omega, by omega⟩, ⟨by omega, by omega⟩, fun _ => ⟨fun y0 => ⟨⟨by omega, by omega⟩, ?_⟩, fun y1 => ⟨⟨by omega, by omega⟩, ?_⟩, fun y2 => ⟨⟨by omega, by omega⟩, ?_⟩, fun y3 => ⟨⟨by omega, by omega⟩, fun y4 => ?_, fun y4 => ⟨⟨by omega, by omega⟩, ?_⟩⟩, fun y0 y1 y2 y3 => ?_⟩, fun z => by omega⟩
      · rw [if_pos y0] at h; exact kI h
      · rw [if_neg (by omega), if_pos y1] at h; exact kI h
      · rw [if_neg (by omega), if_neg (by omega), if_pos y2] at h; exact kI h
      · rw [if_neg (by omega), if_neg (by omega), if_neg (by omega), if_pos y3] at h
        have : rr.2.2.1 = 0 := by
          by_cases cc : 0 < rr.2.2.1
          · rw [if_pos cc] at y4; omega
          · omega
        rw [this] at h; exact kI h
      · rw [if_neg (by omega), if_neg (by omega), if_neg (by omega), if_pos y3] at h
        have cc : 0 < rr.2.2.1 := by
          by_cases cc : 0 < rr.2.2.1
          · exact cc
          · rw [if_neg cc] at y4; omega
        rw [if_pos cc]
        refine ⟨⟨by omega, by omega⟩, ?_⟩
        rw [show rr.2.2.1 + 1 - 1 = rr.2.2.1 by omega]
        exact kI h
      · rw [if_neg y0, if_neg y1, if_neg y2, if_neg y3, e] at h; exact kI h
    | succ m ih =>
      intro j k hm hj hk e
      by_cases hjn : j < rr.2.2.2.2.length
      · obtain ⟨L, hL⟩ : ∃ L, rr.2.2.2.2[j]? = some L := ⟨_, List.getElem?_eq_getElem hjn⟩
        have hN := u11 L (List.mem_of_getElem? hL)
        have hLi := q5.2 j L hL
        rw [drop_s hL] at e
        have e : cirL (hgs s.2.1 s.1.length) rr rr.2.2.2.2 = k + ((if L.1 = 0 ∧ lbk (hgs s.2.1 s.1.length) rr.1 L.2.2.1 = true then 1 else 0) + cirL (hgs s.2.1 s.1.length) rr (rr.2.2.2.2.drop (j + 1))) := e
        have nx : ¬ (L.1 = 0 ∧ lbk (hgs s.2.1 s.1.length) rr.1 L.2.2.1 = true) → inr32 ((k : Int) + 0) ∧ inr32 (6 * (30 * (sd : Int) + r) + (j : Int) + 1) ∧ Wp m_M_rule 56 [(0, vr 78), (2, vi x), (3, vi (30 * (sd : Int) + r)), (4, vi ((k : Int) + 0)), (5, vi (6 * (30 * (sd : Int) + r) + (j : Int) + 1))] [] (0, 0) w8 (fun r w' => ∃ y, r = some (vi y) ∧ K y w') := by
          intro q
          rw [if_neg q] at e
          refine ⟨⟨by omega, by omega⟩, ⟨by omega, by omega⟩, ?_⟩
          rw [Int.add_zero, show 6 * (30 * (sd : Int) + r) + (j : Int) + 1 = 6 * (30 * (sd : Int) + r) + ((j + 1 : Nat) : Int) by omega]
          exact ih (j + 1) k (by omega) (by omega) (by omega) (by omega)
        refine t_M_rule_56 ?_
        rw [show (30 * (sd : Int) + r).toNat = 30 * sd + r.toNat by omega, q5.1, show (6 * (30 * (sd : Int) + r) + (j : Int)).toNat = 6 * (30 * sd + r.toNat) + j by omega, hLi.1]
        refine ⟨⟨by omega, by omega⟩, ⟨by omega, by omega⟩, ⟨by omega, by omega⟩, fun z => by omega, fun _ => ⟨⟨by omega, by omega⟩, fun z => nx (fun q => z q.1), fun z => ⟨⟨by omega, by omega⟩, ⟨by omega, by omega⟩, ?_⟩⟩⟩
        have hla := hN.1.a (Or.inl z)
        have hlb := hN.2.2
        rw [q1, (hLi.2.2.1 (Or.inl z)).1]
        refine s_M_isBack E8 ⟨u1, by omega⟩ ⟨hla.1, hla.2⟩ (fun hb => ⟨fun q => absurd q (by decide), fun _ => ⟨⟨by omega, by omega⟩, ⟨by omega, by omega⟩, ?_⟩⟩) (fun hb => ⟨fun _ => nx (fun q => by rw [hb] at q; cases q.2), fun q => absurd rfl q⟩)
        rw [if_pos ⟨z, hb⟩] at e
        rw [show (k : Int) + 1 = ((k + 1 : Nat) : Int) by omega, show 6 * (30 * (sd : Int) + r) + (j : Int) + 1 = 6 * (30 * (sd : Int) + r) + ((j + 1 : Nat) : Int) by omega]
        exact ih (j + 1) (k + 1) (by omega) (by omega) (by omega) (by omega)
      · exact ih j k (by omega) hj hk e
  have := lp rr.2.2.2.2.length 0 0 (by omega) (Nat.zero_le _) (Nat.le_refl _) (by rw [List.drop_zero, Nat.zero_add])
  rw [show 6 * (30 * (sd : Int) + r) + ((0 : Nat) : Int) = 6 * (30 * (sd : Int) + r) by omega] at this
  exact ⟨⟨by omega, by omega⟩, ⟨by omega, by omega⟩, ⟨by omega, by omega⟩, this⟩
theorem plan_row {ls : List Lit} {k i : Nat} {x : Int × Int × Int} (h : (plan ls k).2.2[i]? = some x) : 0 ≤ x.1 ∧ x.1 < ls.length := by
  induction k with
  | zero => cases h
  | succ k ih =>
    rw [plan] at h
    split at h
    · exact ih h
    · rename_i hn
      rcases getApp h with ⟨hi, h⟩ | ⟨hi, h⟩
      · exact ih h
      · rw [← h]
        rcases nxt_rng (ls := ls) (left := (plan ls k).2.1) (hv := (plan ls k).1) with e | ⟨e1, e2, e3⟩
        · omega
        · exact ⟨e1, e2⟩
theorem getD_row {R : List (Int × Int × Int)} {i : Nat} (h : i < R.length) : R[i]? = some (R.getD i (0, 0, 0)) := by
  rw [List.getD_eq_getElem?_getD, List.getElem?_eq_getElem h]; rfl
theorem s_M_literal {s : PSt} {f : Int × Int} {c : Nat → Int} {n : Nat} {r i x : Int} {w : Wo} {K : Int → Wo → Prop} (hR : RI s f c n w) (hW : PW s) (h1 : ∀ v w', liA s r i x = some v → RI s f c n w' → gI w' 78 0 = 0 → FX (fun o k => oT0 o k ∨ oPl o k) o0 w w' → K v w') (h0 : ∀ w', liA s r i x = none → RI s f c n w' → gI w' 78 0 = 1 → FX (fun o k => oT0 o k ∨ oPl o k) o0 w w' → K 0 w') : MetI m_M_literal [vr 78, vi r, vi i, vi x] w K := by
  obtain ⟨a, ha, W, hf⟩ := hW
  have rs : liA s r i x = none → MetI m_M_raise [vr 78, vi 1] w (fun z w1 => ∃ y, (some (vi z) : Option AV) = some (vi y) ∧ K y w1) := fun q => s_M_raise (fun w' e => kI (h0 w' q (hR.t0 e) (by rw [e, gI_uI, if_pos ⟨rfl, rfl⟩]) (by rw [e]; exact FX.rf.uI (Or.inl ⟨rfl, rfl⟩))))
  obtain ⟨-, -, sd, s1, s2, s3, s4⟩ := id hR
  have hl30 := s3.2.1.2.1
  refine met_of (by decide) rfl (Nat.le_of_ble_eq_true rfl) (t_M_literal_0 ?_)
  rw [s2, show ((sd : Int)).toNat = sd from rfl, s3.2.1.1]
  refine ⟨fun z => rs (if_neg (by omega)), fun z => ⟨⟨by omega, by omega⟩, fun z2 => rs (if_neg (by omega)), fun z2 => ⟨fun z3 => rs (if_neg (by omega)), fun z3 => ?_⟩⟩⟩
  have hr := getD_ru (R := s.2.1) (i := r.toNat) (by omega)
  unfold liA at h1 rs
  generalize s.2.1.getD r.toNat dfR = rr at hr h1 rs
  obtain ⟨q1, q2, q3, q4, q5⟩ := s3.2.1.2.2.2 r.toNat rr hr
  obtain ⟨u1, u2, u3, u4, u5, u6, u7, u8, u9, u10, u11, -⟩ := W.2.2.2.1 rr (List.mem_of_getElem? hr)
  have hfull := W.2.2.2.2.2.2 hf rr (List.mem_of_getElem? hr)
  rw [show (30 * (sd : Int) + r).toNat = 30 * sd + r.toNat by omega, q5.1]
  refine ⟨⟨by omega, by omega⟩, ⟨by omega, by omega⟩, ⟨by omega, by omega⟩, fun z4 => rs (if_neg (by omega)), fun z4 => ⟨fun z5 => rs (if_neg (by omega)), fun z5 => ⟨fun z6 w13 e13 => ?_, fun z6 => rs (if_neg (by omega))⟩⟩⟩
  have R13 := hR.t0 e13
  have F13 : FX oT0 o0 w w13 := by rw [e13]; exact FX.rf.uI ⟨rfl, rfl⟩
  have g11 : gI w13 78 11 = (sd : Int) := by rw [F13.1 78 11 (by unfold oT0; omega)]; exact s2
  have l13 : LsM (30 * sd + r.toNat) rr.2.2.2.2 w13 := q5.fx F13 (fun o k z => by obtain ⟨rfl, rfl⟩ := z; simp [lsI]) (fun o k z => z.elim)
  rw [g11, show 30 * (sd : Int) + r = ((30 * sd + r.toNat : Nat) : Int) by omega]
  refine ⟨⟨by omega, by omega⟩, ⟨by omega, by omega⟩, s_M_plan (by omega) l13 u10 (fun L hL => (u11 L hL).1) hfull (fun w15 rw15 F15 => ?_)⟩
  have g11' : gI w15 78 11 = (sd : Int) := by rw [F15.1 78 11 (by unfold oPl; omega)]; exact g11
  have l15 := l13.pl F15
  have hrow := getD_row (R := (plan rr.2.2.2.2 rr.2.2.2.2.length).2.2) (i := i.toNat) (by omega)
  have hrr := plan_row hrow
  obtain ⟨y1, y2, y3⟩ := rw15 i.toNat _ hrow
  have F15' : FX (fun o k => oT0 o k ∨ oPl o k) o0 w w15 := (F13.sub (fun o k z => Or.inl z) (fun o k z => z)).tr (F15.sub (fun o k z => Or.inr z) (fun o k z => z))
  have R15 : RI s f c n w15 := R13.fx F15 (fun o k z => Or.inr z.1) (fun o k z => z)
  have h := h1 (liV rr i.toNat x) w15 (if_pos ⟨by omega, by omega, by omega, by omega, by omega, by omega⟩) R15 (by rw [F15.1 78 0 (by unfold oPl; omega), e13, gI_uI, if_pos ⟨rfl, rfl⟩]) F15'
  unfold liV at h
  generalize (plan rr.2.2.2.2 rr.2.2.2.2.length).2.2.getD i.toNat (0, 0, 0) = row at *
  have hkl : row.1.toNat < rr.2.2.2.2.length := by omega
  have hL := getD_at hkl
  have hLi := l15.2 row.1.toNat _ hL
  have hN := u11 _ (List.mem_of_getElem? hL)
  generalize rr.2.2.2.2.getD row.1.toNat dfL = L at *
  rw [g11', show 30 * (sd : Int) + r = ((30 * sd + r.toNat : Nat) : Int) by omega, y1, y2, y3, show 6 * ((30 * sd + r.toNat : Nat) : Int) + row.1 = ((6 * (30 * sd + r.toNat) + row.1.toNat : Nat) : Int) by omega, show (((6 * (30 * sd + r.toNat) + row.1.toNat : Nat) : Int)).toNat = 6 * (30 * sd + r.toNat) + row.1.toNat from rfl, hLi.1]
  refine ⟨⟨by omega, by omega⟩, ⟨by omega, by omega⟩, ⟨by omega, by omega⟩, ⟨by omega, by omega⟩, ⟨by omega, by omega⟩, fun x0 => ⟨⟨by omega, by omega⟩, ?_⟩, fun x1 => ⟨⟨by omega, by omega⟩, ?_⟩, fun x2 => ?_, fun x3 => ⟨⟨by omega, by omega⟩, ?_⟩, fun x0 x1 x2 x3 => ⟨⟨by omega, by omega⟩, ?_⟩⟩
  · rw [if_pos x0] at h; exact kI h
  · rw [if_neg (by omega), if_pos x1] at h; exact kI h
  · rw [if_neg (by omega), if_neg (by omega), if_pos x2] at h
    refine s_M_isAtom (by omega) hLi (fun hA => ⟨fun q => absurd q (by decide), fun _ => ⟨⟨by omega, by omega⟩, ?_⟩⟩) (fun hA => ⟨fun _ => ?_, fun q => absurd rfl q⟩)
    · rw [(hLi.2.2.1 hA).1]; exact kI h
    · rw [hN.1.b hA] at h; exact kI h
  · rw [if_neg (by omega), if_neg (by omega), if_neg (by omega), if_pos x3] at h; exact kI h
  · rw [if_neg x0, if_neg x1, if_neg x2, if_neg x3] at h; exact kI h
theorem s_Bk_circles {b n i : Nat} {s : PSt} {r : Rul} {w : Wo} {K : Int → Wo → Prop} (hb : isBk b) (hB : BookC b s w) (hn : n = s.1.length) (hn16 : n ≤ 16) (hi : s.2.1[i]? = some r) (h30 : i < 30) (hok : RuOK n r) (hro : rsOK s.2.1) (h : K (cirL (hgs s.2.1 s.1.length) r r.2.2.2.2 : Nat) w) : MetI m_Bk_circles [vr b, vi (i : Int)] w K := by
  subst hn
  have bc := bk_c hb
  obtain ⟨b1, b2, b3, b4⟩ := hB
  obtain ⟨u1, u2, u3, u4, u5, u6, u7, u8, u9, u10, u11, -⟩ := hok
  obtain ⟨r1, r2, r3, r4, r5, r6, r7⟩ := b4.2 i r hi
  have e2 : gI w (b + 1 + 2) i = (r.2.2.2.2.length : Nat) := r2
  have hH : HgC b s.1.length (wrm (hgR s.2.1) s.1.length) w := fun p hp => (b3 p hp).2.2.2
  have lp : ∀ (m j k : Nat), r.2.2.2.2.length - j ≤ m → j ≤ r.2.2.2.2.length → k ≤ j → cirL (hgs s.2.1 s.1.length) r r.2.2.2.2 = k + cirL (hgs s.2.1 s.1.length) r (r.2.2.2.2.drop j) → Wp m_Bk_circles 4 [(0, vr b), (1, vi (i : Int)), (2, vi (k : Int)), (3, vi (j : Int))] [] (0, 0) w (fun r w' => ∃ y, r = some (vi y) ∧ K y w') := by
    intro m
    induction m with
    | zero =>
      intro j k hm hj hk e
      have ej : j = r.2.2.2.2.length := by omega
      rw [ej, List.drop_length] at e
      have e : cirL (hgs s.2.1 s.1.length) r r.2.2.2.2 = k := e
      rw [e] at h
      refine t_Bk_circles_4 hb ?_
      rw [show ((i : Int)).toNat = i from rfl, e2]
      exact ⟨⟨by omega, by omega⟩, fun _ => kI h, fun z => by omega⟩
    | succ m ih =>
      intro j k hm hj hk e
      by_cases hjn : j < r.2.2.2.2.length
      · obtain ⟨L, hL⟩ : ∃ L, r.2.2.2.2[j]? = some L := ⟨_, List.getElem?_eq_getElem hjn⟩
        have hN := u11 L (List.mem_of_getElem? hL)
        rw [drop_s hL] at e
        have e : cirL (hgs s.2.1 s.1.length) r r.2.2.2.2 = k + ((if L.1 = 0 ∧ lbk (hgs s.2.1 s.1.length) r.1 L.2.2.1 = true then 1 else 0) + cirL (hgs s.2.1 s.1.length) r (r.2.2.2.2.drop (j + 1))) := e
        have nx : ¬ (L.1 = 0 ∧ lbk (hgs s.2.1 s.1.length) r.1 L.2.2.1 = true) → inr32 ((j : Int) + 1) ∧ Wp m_Bk_circles 4 [(0, vr b), (1, vi (i : Int)), (2, vi (k : Int)), (3, vi ((j : Int) + 1))] [] (0, 0) w (fun r w' => ∃ y, r = some (vi y) ∧ K y w') := by
          intro q
          rw [if_neg q] at e
          exact ⟨⟨by omega, by omega⟩, ih (j + 1) k (by omega) (by omega) (by omega) (by omega)⟩
        have e6 : gI w (b + 1 + 6) (6 * i + j) = L.1 := (r6 j L hL).1
        refine t_Bk_circles_4 hb ?_
        rw [show ((i : Int)).toNat = i from rfl, e2, show ((i : Int) * 6 + (j : Int)).toNat = 6 * i + j by omega, e6]
        refine ⟨⟨by omega, by omega⟩, fun z => by omega, fun _ => ⟨⟨by omega, by omega⟩, ⟨by omega, by omega⟩, ⟨by omega, by omega⟩, fun z => nx (fun q => z q.1), fun z => ?_⟩⟩
        refine s_Bk_leadsBack hb b1 hn16 b4 hi hL h30 (by omega) hN ⟨u1, u2⟩ (wrm_lt (hgR_lt hro) _) hH (fun hA hB => ⟨fun q => absurd q (by decide), fun _ => ⟨⟨by omega, by omega⟩, ⟨by omega, by omega⟩, ?_⟩⟩) (fun hB => ⟨fun _ => nx (fun q => hB ⟨Or.inl q.1, by rw [wrm_hgs]; exact q.2⟩), fun q => absurd rfl q⟩)
        rw [wrm_hgs] at hB
        rw [if_pos ⟨z, hB⟩] at e
        exact ih (j + 1) (k + 1) (by omega) (by omega) (by omega) (by omega)
      · exact ih j k (by omega) hj hk e
  exact met_of (by decide) rfl (Nat.le_of_ble_eq_true rfl) (t_Bk_circles_0 hb (lp r.2.2.2.2.length 0 0 (by omega) (Nat.zero_le _) (Nat.le_refl _) (by rw [List.drop_zero, Nat.zero_add])))
