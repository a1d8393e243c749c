/-! the JDK's String.length and String.charAt over the five strings, bitCount, max, min -/
theorem d_JS_coder_0 : decode (cd m_JS_coder) 0 = .ok (.getstatic 38, 3) := by decide +kernel
theorem d_JS_coder_3 : decode (cd m_JS_coder) 3 = .ok (.ifCond .eq 10, 3) := by decide +kernel
theorem d_JS_coder_6 : decode (cd m_JS_coder) 6 = .ok (.aload_n 0, 1) := by decide +kernel
theorem d_JS_coder_7 : decode (cd m_JS_coder) 7 = .ok (.getfield 15, 3) := by decide +kernel
theorem d_JS_coder_10 : decode (cd m_JS_coder) 10 = .ok (.goto 4, 3) := by decide +kernel
theorem d_JS_coder_13 : decode (cd m_JS_coder) 13 = .ok (.iconst 1, 1) := by decide +kernel
theorem d_JS_coder_14 : decode (cd m_JS_coder) 14 = .ok (.ireturn, 1) := by decide +kernel
theorem d_JS_isLatin1_0 : decode (cd m_JS_isLatin1) 0 = .ok (.getstatic 38, 3) := by decide +kernel
theorem d_JS_isLatin1_3 : decode (cd m_JS_isLatin1) 3 = .ok (.ifCond .eq 14, 3) := by decide +kernel
theorem d_JS_isLatin1_6 : decode (cd m_JS_isLatin1) 6 = .ok (.aload_n 0, 1) := by decide +kernel
theorem d_JS_isLatin1_7 : decode (cd m_JS_isLatin1) 7 = .ok (.getfield 15, 3) := by decide +kernel
theorem d_JS_isLatin1_10 : decode (cd m_JS_isLatin1) 10 = .ok (.ifCond .ne 7, 3) := by decide +kernel
theorem d_JS_isLatin1_13 : decode (cd m_JS_isLatin1) 13 = .ok (.iconst 1, 1) := by decide +kernel
theorem d_JS_isLatin1_14 : decode (cd m_JS_isLatin1) 14 = .ok (.goto 4, 3) := by decide +kernel
theorem d_JS_isLatin1_17 : decode (cd m_JS_isLatin1) 17 = .ok (.iconst 0, 1) := by decide +kernel
theorem d_JS_isLatin1_18 : decode (cd m_JS_isLatin1) 18 = .ok (.ireturn, 1) := by decide +kernel
theorem d_JS_length_0 : decode (cd m_JS_length) 0 = .ok (.aload_n 0, 1) := by decide +kernel
theorem d_JS_length_1 : decode (cd m_JS_length) 1 = .ok (.getfield 9, 3) := by decide +kernel
theorem d_JS_length_4 : decode (cd m_JS_length) 4 = .ok (.arraylength, 1) := by decide +kernel
theorem d_JS_length_5 : decode (cd m_JS_length) 5 = .ok (.aload_n 0, 1) := by decide +kernel
theorem d_JS_length_6 : decode (cd m_JS_length) 6 = .ok (.invokevirtual 335, 3) := by decide +kernel
theorem d_JS_length_9 : decode (cd m_JS_length) 9 = .ok (.ishr, 1) := by decide +kernel
theorem d_JS_length_10 : decode (cd m_JS_length) 10 = .ok (.ireturn, 1) := by decide +kernel
theorem d_JS_ck_0 : decode (cd m_JS_ck) 0 = .ok (.iload_n 0, 1) := by decide +kernel
theorem d_JS_ck_1 : decode (cd m_JS_ck) 1 = .ok (.iload_n 1, 1) := by decide +kernel
theorem d_JS_ck_2 : decode (cd m_JS_ck) 2 = .ok (.getstatic 1053, 3) := by decide +kernel
theorem d_JS_ck_5 : decode (cd m_JS_ck) 5 = .ok (.invokestatic 1059, 3) := by decide +kernel
theorem d_JS_ck_8 : decode (cd m_JS_ck) 8 = .ok (.pop, 1) := by decide +kernel
theorem d_JS_ck_9 : decode (cd m_JS_ck) 9 = .ok (.return_, 1) := by decide +kernel
theorem d_JL_charAt_0 : decode (cd m_JL_charAt) 0 = .ok (.iload_n 1, 1) := by decide +kernel
theorem d_JL_charAt_1 : decode (cd m_JL_charAt) 1 = .ok (.aload_n 0, 1) := by decide +kernel
theorem d_JL_charAt_2 : decode (cd m_JL_charAt) 2 = .ok (.arraylength, 1) := by decide +kernel
theorem d_JL_charAt_3 : decode (cd m_JL_charAt) 3 = .ok (.invokestatic 9, 3) := by decide +kernel
theorem d_JL_charAt_6 : decode (cd m_JL_charAt) 6 = .ok (.aload_n 0, 1) := by decide +kernel
theorem d_JL_charAt_7 : decode (cd m_JL_charAt) 7 = .ok (.iload_n 1, 1) := by decide +kernel
theorem d_JL_charAt_8 : decode (cd m_JL_charAt) 8 = .ok (.baload, 1) := by decide +kernel
theorem d_JL_charAt_9 : decode (cd m_JL_charAt) 9 = .ok (.sipush 255, 3) := by decide +kernel
theorem d_JL_charAt_12 : decode (cd m_JL_charAt) 12 = .ok (.iand, 1) := by decide +kernel
theorem d_JL_charAt_13 : decode (cd m_JL_charAt) 13 = .ok (.i2c, 1) := by decide +kernel
theorem d_JL_charAt_14 : decode (cd m_JL_charAt) 14 = .ok (.ireturn, 1) := by decide +kernel
theorem d_JS_charAt_0 : decode (cd m_JS_charAt) 0 = .ok (.aload_n 0, 1) := by decide +kernel
theorem d_JS_charAt_1 : decode (cd m_JS_charAt) 1 = .ok (.invokevirtual 492, 3) := by decide +kernel
theorem d_JS_charAt_4 : decode (cd m_JS_charAt) 4 = .ok (.ifCond .eq 12, 3) := by decide +kernel
theorem d_JS_charAt_7 : decode (cd m_JS_charAt) 7 = .ok (.aload_n 0, 1) := by decide +kernel
theorem d_JS_charAt_8 : decode (cd m_JS_charAt) 8 = .ok (.getfield 9, 3) := by decide +kernel
theorem d_JS_charAt_11 : decode (cd m_JS_charAt) 11 = .ok (.iload_n 1, 1) := by decide +kernel
theorem d_JS_charAt_12 : decode (cd m_JS_charAt) 12 = .ok (.invokestatic 495, 3) := by decide +kernel
theorem d_JS_charAt_15 : decode (cd m_JS_charAt) 15 = .ok (.ireturn, 1) := by decide +kernel
theorem s_coder {i : Nat} (hi : i < 5) {w : Wo} {K : Int → Wo → Prop} (h : K 0 w) : MetI m_JS_coder [vr (1001 + i)] w K := by
  refine met_of (by decide) rfl (Nat.le_of_ble_eq_true rfl) ?_
  refine wp_compact d_JS_coder_0 (aw2 (i := 192) rfl rfl) ?_
  refine wp_if_eq (tgt := 13) d_JS_coder_3 (by decide) (fun hc => absurd hc (by decide)) (fun _ => ?_)
  refine wp_aload_n d_JS_coder_6 (i := 0) rfl 0 rfl ?_
  refine wp_coder hi d_JS_coder_7 (aw6 (i := 3) rfl rfl) ?_
  refine wp_goto (tgt := 14) d_JS_coder_10 (by decide) ?_
  exact wp_nret d_JS_coder_14 rfl (by decide) (by decide) (kI h)
theorem s_isLatin1 {i : Nat} (hi : i < 5) {w : Wo} {K : Int → Wo → Prop} (h : K 1 w) : MetI m_JS_isLatin1 [vr (1001 + i)] w K := by
  refine met_of (by decide) rfl (Nat.le_of_ble_eq_true rfl) ?_
  refine wp_compact d_JS_isLatin1_0 (aw2 (i := 192) rfl rfl) ?_
  refine wp_if_eq (tgt := 17) d_JS_isLatin1_3 (by decide) (fun hc => absurd hc (by decide)) (fun _ => ?_)
  refine wp_aload_n d_JS_isLatin1_6 (i := 0) rfl 0 rfl ?_
  refine wp_coder hi d_JS_isLatin1_7 (aw6 (i := 3) rfl rfl) ?_
  refine wp_if_ne (tgt := 17) d_JS_isLatin1_10 (by decide) (fun hc => absurd rfl hc) (fun _ => ?_)
  refine wp_iconst d_JS_isLatin1_13 (by decide) ?_
  refine wp_goto (tgt := 18) d_JS_isLatin1_14 (by decide) ?_
  exact wp_zret d_JS_isLatin1_18 rfl (by decide) (by decide) (kI h)
def stLen (r : Nat) : Int := ((stN.getD (r - 1001) 0 : Nat) : Int)
def stCh (r : Nat) (x : Int) : Int := ((stB.getD (r - 1001) []).getD x.toNat 0).toInt
theorem stL_in {i : Nat} : stLen (1001 + i) = ((stN.getD i 0 : Nat) : Int) := by
  unfold stLen
  rw [show 1001 + i - 1001 = i by omega]
theorem shr0 : ∀ i, i < 5 → b_ishr ((stN.getD i 0 : Nat) : Int) 0 = ((stN.getD i 0 : Nat) : Int) := by decide +kernel
theorem s_length {r : Nat} (hr : isSt r) {w : Wo} {K : Int → Wo → Prop} (h : K (stLen r) w) : MetI m_JS_length [vr r] w K := by
  obtain ⟨i, hi, rfl⟩ := hr
  rw [stL_in] at h
  refine met_of (by decide) rfl (Nat.le_of_ble_eq_true rfl) ?_
  refine wp_aload_n d_JS_length_0 (i := 0) rfl 0 rfl ?_
  refine wp_svalue hi d_JS_length_1 (aw6 (i := 2) rfl rfl) ?_
  refine wp_svlen hi d_JS_length_4 ?_
  refine wp_aload_n d_JS_length_5 (i := 0) rfl 0 rfl ?_
  refine wp_callT (c := m_JS_coder) hi (A := []) (S := [vi ((stN.getD i 0 : Nat) : Int)]) d_JS_length_6 ⟨(aw2 (i := 191) rfl rfl), (aw1 (i := 11) rfl rfl), ⟨by decide, by decide⟩, by decide +kernel, by decide, by decide⟩ (aw2 (i := 188) rfl rfl) (aw2 (i := 189) rfl rfl) (aw2 (i := 190) rfl rfl) rfl rfl (Nat.le_of_ble_eq_true rfl) (by decide) ?_
  refine MetS.mono (s_coder hi (K := fun x w' => x = 0 ∧ w' = w) ⟨rfl, rfl⟩) (fun r w1 hh => ?_)
  obtain ⟨z, er, e1, e2⟩ := hh
  subst er; subst e1; subst e2
  refine wp_ishr d_JS_length_9 ?_
  rw [shr0 i hi]
  exact wp_iret d_JS_length_10 rfl (by decide) (kI h)
theorem d_JP_ck_0 : decode (cd m_JP_ck) 0 = .ok (.iload_n 0, 1) := by decide +kernel
theorem d_JP_ck_1 : decode (cd m_JP_ck) 1 = .ok (.ifCond .lt 8, 3) := by decide +kernel
theorem d_JP_ck_4 : decode (cd m_JP_ck) 4 = .ok (.iload_n 0, 1) := by decide +kernel
theorem d_JP_ck_5 : decode (cd m_JP_ck) 5 = .ok (.iload_n 1, 1) := by decide +kernel
theorem d_JP_ck_6 : decode (cd m_JP_ck) 6 = .ok (.if_icmp .lt 10, 3) := by decide +kernel
theorem d_JP_ck_16 : decode (cd m_JP_ck) 16 = .ok (.iload_n 0, 1) := by decide +kernel
theorem d_JP_ck_17 : decode (cd m_JP_ck) 17 = .ok (.ireturn, 1) := by decide +kernel
theorem cs_JS_ck : SLP m_JS_ck m_JP_ck 1059 3 := ⟨⟨(aw2 (i := 212) rfl rfl), (aw1 (i := 13) rfl rfl), ⟨by decide, by decide⟩, by decide +kernel, by decide, by decide⟩, (aw2 (i := 210) rfl rfl), (aw2 (i := 211) rfl rfl)⟩
theorem cs_JL : SLP m_JL_charAt m_JS_ck 9 2 := ⟨⟨(aw2 (i := 207) rfl rfl), (aw1 (i := 11) rfl rfl), ⟨by decide, by decide⟩, by decide +kernel, by decide, by decide⟩, (aw2 (i := 205) rfl rfl), (aw2 (i := 206) rfl rfl)⟩
theorem cs_JS_charAt : SLP m_JS_charAt m_JL_charAt 495 2 := ⟨⟨(aw2 (i := 204) rfl rfl), (aw1 (i := 12) rfl rfl), ⟨by decide, by decide⟩, by decide +kernel, by decide, by decide⟩, (aw2 (i := 202) rfl rfl), (aw2 (i := 203) rfl rfl)⟩
theorem s_ckP {x y : Int} {q : Nat} {w : Wo} {K : Int → Wo → Prop} (hx : 0 ≤ x ∧ x < y) (h : K x w) : MetI m_JP_ck [vi x, vi y, vr q] w K := by
  refine met_of (by decide) rfl (Nat.le_of_ble_eq_true rfl) ?_
  refine wp_iload_n d_JP_ck_0 (i := 0) rfl 0 rfl ?_
  refine wp_if_lt (tgt := 9) d_JP_ck_1 (by decide) (fun hc => ?_) (fun _ => ?_)
  · omega
  refine wp_iload_n d_JP_ck_4 (i := 0) rfl 0 rfl ?_
  refine wp_iload_n d_JP_ck_5 (i := 1) rfl 1 rfl ?_
  refine wp_icmp_lt (tgt := 16) d_JP_ck_6 (by decide) (fun hc => ?_) (fun hc => ?_)
  · refine wp_iload_n d_JP_ck_16 (i := 0) rfl 0 rfl ?_
    exact wp_iret d_JP_ck_17 rfl (by decide) (kI h)
  · omega
theorem s_ckS {x y : Int} {w : Wo} {K : Wo → Prop} (hx : 0 ≤ x ∧ x < y) (h : K w) : MetV m_JS_ck [vi x, vi y] w K := by
  refine met_of (by decide) rfl (Nat.le_of_ble_eq_true rfl) ?_
  refine wp_iload_n d_JS_ck_0 (i := 0) rfl 0 rfl ?_
  refine wp_iload_n d_JS_ck_1 (i := 1) rfl 1 rfl ?_
  refine wp_sioobe d_JS_ck_2 (aw2 (i := 208) rfl rfl) (fun q => ?_)
  refine wp_callS (c := m_JP_ck) (A := [vi x, vi y, vr q]) (S := []) d_JS_ck_5 cs_JS_ck rfl (Nat.le_of_ble_eq_true rfl) (by decide) ?_
  refine MetS.mono (s_ckP hx (K := fun z w' => z = x ∧ w' = w) ⟨rfl, rfl⟩) (fun r w1 hh => ?_)
  obtain ⟨z, er, e1, e2⟩ := hh
  subst er; subst e1; subst e2
  refine wp_pop d_JS_ck_8 rfl ?_
  exact wp_vret d_JS_ck_9 rfl (by decide) ⟨rfl, h⟩
theorem st255 : ∀ i, i < 5 → ∀ j, j < 5 → j < stN.getD i 0 → b_iand (((stB.getD i []).getD j 0).toInt) 255 = ((stB.getD i []).getD j 0).toInt ∧ 0 ≤ ((stB.getD i []).getD j 0).toInt ∧ ((stB.getD i []).getD j 0).toInt < 128 := by decide +kernel
theorem nar_c : ∀ i, i < 5 → ∀ j, j < 5 → j < stN.getD i 0 → narrow .char (.int (Int32.ofInt (((stB.getD i []).getD j 0).toInt))) = .int (Int32.ofInt (((stB.getD i []).getD j 0).toInt)) := by decide +kernel
theorem stN5 : ∀ i, i < 5 → stN.getD i 0 ≤ 5 := by decide
theorem s_lcharAt {i : Nat} {x : Int} (hi : i < 5) (hx : 0 ≤ x ∧ x < ((stN.getD i 0 : Nat) : Int)) {w : Wo} {K : Int → Wo → Prop} (h : K (((stB.getD i []).getD x.toNat 0).toInt) w) : MetI m_JL_charAt [vr (2001 + i), vi x] w K := by
  have h5 := stN5 i hi
  obtain ⟨e1, e2, e3⟩ := st255 i hi x.toNat (by omega) (by omega)
  refine met_of (by decide) rfl (Nat.le_of_ble_eq_true rfl) ?_
  refine wp_iload_n d_JL_charAt_0 (i := 1) rfl 1 rfl ?_
  refine wp_aload_n d_JL_charAt_1 (i := 0) rfl 0 rfl ?_
  refine wp_svlen hi d_JL_charAt_2 ?_
  refine wp_callS (c := m_JS_ck) (A := [vi x, vi ((stN.getD i 0 : Nat) : Int)]) (S := []) d_JL_charAt_3 cs_JL rfl (Nat.le_of_ble_eq_true rfl) (by decide) ?_
  refine MetS.mono (s_ckS hx (K := fun w' => w' = w) rfl) (fun r w1 hh => ?_)
  obtain ⟨er, ew⟩ := hh
  subst er; subst ew
  refine wp_aload_n d_JL_charAt_6 (i := 0) rfl 0 rfl ?_
  refine wp_iload_n d_JL_charAt_7 (i := 1) rfl 1 rfl ?_
  refine wp_svld hi hx d_JL_charAt_8 ?_
  refine wp_sipush d_JL_charAt_9 (by decide) (by decide) ?_
  refine wp_iand d_JL_charAt_12 ?_
  rw [e1]
  refine wp_i2c d_JL_charAt_13 (by omega) ?_
  exact wp_nret d_JL_charAt_14 rfl (by decide) (nar_c i hi x.toNat (by omega) (by omega)) (kI h)
theorem s_charAt {r : Nat} {x : Int} (hr : isSt r) (hx : 0 ≤ x ∧ x < stLen r) {w : Wo} {K : Int → Wo → Prop} (h : K (stCh r x) w) : MetI m_JS_charAt [vr r, vi x] w K := by
  obtain ⟨i, hi, rfl⟩ := hr
  rw [stL_in] at hx
  have e9 : stCh (1001 + i) x = ((stB.getD i []).getD x.toNat 0).toInt := by
    unfold stCh
    rw [show 1001 + i - 1001 = i by omega]
  rw [e9] at h
  have h5 := stN5 i hi
  refine met_of (by decide) rfl (Nat.le_of_ble_eq_true rfl) ?_
  refine wp_aload_n d_JS_charAt_0 (i := 0) rfl 0 rfl ?_
  refine wp_callT (c := m_JS_isLatin1) hi (A := []) (S := []) d_JS_charAt_1 ⟨(aw2 (i := 201) rfl rfl), (aw1 (i := 11) rfl rfl), ⟨by decide, by decide⟩, by decide +kernel, by decide, by decide⟩ (aw2 (i := 198) rfl rfl) (aw2 (i := 199) rfl rfl) (aw2 (i := 200) rfl rfl) rfl rfl (Nat.le_of_ble_eq_true rfl) (by decide) ?_
  refine MetS.mono (s_isLatin1 hi (K := fun z w' => z = 1 ∧ w' = w) ⟨rfl, rfl⟩) (fun r w1 hh => ?_)
  obtain ⟨z, er, e1, e2⟩ := hh
  subst er; subst e1; subst e2
  refine wp_if_eq (tgt := 16) d_JS_charAt_4 (by decide) (fun hc => absurd hc (by decide)) (fun _ => ?_)
  refine wp_aload_n d_JS_charAt_7 (i := 0) rfl 0 rfl ?_
  refine wp_svalue hi d_JS_charAt_8 (aw6 (i := 2) rfl rfl) ?_
  refine wp_iload_n d_JS_charAt_11 (i := 1) rfl 1 rfl ?_
  refine wp_callS (c := m_JL_charAt) (A := [vr (2001 + i), vi x]) (S := []) d_JS_charAt_12 cs_JS_charAt rfl (Nat.le_of_ble_eq_true rfl) (by decide) ?_
  refine MetS.mono (s_lcharAt hi hx (K := fun z w' => z = ((stB.getD i []).getD x.toNat 0).toInt ∧ w' = w1) ⟨rfl, rfl⟩) (fun r w2 hh => ?_)
  obtain ⟨z, er, e1, e2⟩ := hh
  subst er; subst e1; subst e2
  exact wp_nret d_JS_charAt_15 rfl (by decide) (nar_c i hi x.toNat (by omega) (by omega)) (kI h)
/-- bitCount of a byte -/
def popc (x : Nat) : Nat := (List.range 8).foldl (fun a i => a + x / 2 ^ i % 2) 0
