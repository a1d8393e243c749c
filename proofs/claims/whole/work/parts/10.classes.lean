/-! the classes as the tables have them (by program) -/
def isSt (r : Nat) : Prop := ∃ i, i < 5 ∧ r = 1001 + i
def TLP (m c : MR) (idx n : Nat) : Prop := CaP m c n ∧ Cond.methodLink (yy m).cls idx (yy c) ∈ AW ∧ Cond.instanceMethod (yy c) ∈ AW ∧ Cond.selects (yy c).cls (yy c) (yy c) ∈ AW ∧ (yy c).cls = "java/lang/String"
theorem wp_callT2 {b bF : Bool} {m : MR} {pc : Nat} {L : List (Nat × AV)} {S : List AV} {k : Nat × Nat} {w : Wo} {Q : Option AV → Wo → Prop} {c : MR} {idx q : Nat} {A St : List AV} (hd : decode (cd m) pc = .ok (.invokevirtual idx, 3)) (hl : TLP m c idx A.length) (hs : isSt q) (hst : St = A.reverse ++ vr q :: S) (hW : (S.map catA).sum ≤ 8) (hk : k.1 + (rmm c).cells ≤ (rmm m).cells ∧ k.2 + (rmm c).slots ≤ (rmm m).slots)
    (hM : MetS b c (vr q :: A) w (fun r w' => WpG b bF m (pc + 3) L (r.toList ++ S) (k.1 + (rmm c).cells, k.2 + (rmm c).slots) w' Q)) : WpG b bF m pc L St k w Q := by
  obtain ⟨i, hi, rfl⟩ := hs
  exact wp_callT hi hd hl.1 hl.2.1 hl.2.2.1 hl.2.2.2.1 hl.2.2.2.2 hst hW hk hM
theorem cl_0 : ClP 0 := ⟨RC0, TC0, rfl, fun w hw => by
  have h2 : w ∈ [u_lay RC0 TC0 0, u_lay RC0 TC0 1, u_lay RC0 TC0 2, u_lay RC0 TC0 3, u_lay RC0 TC0 4, u_lay RC0 TC0 5, u_lay RC0 TC0 6, u_lay RC0 TC0 7] := hw
  simp only [List.mem_cons, List.not_mem_nil, or_false] at h2
  rcases h2 with rfl | rfl | rfl | rfl | rfl | rfl | rfl | rfl
  · exact (aw2 (i := 75) rfl rfl)
  · exact (aw2 (i := 77) rfl rfl)
  · exact (aw2 (i := 79) rfl rfl)
  · exact (aw2 (i := 81) rfl rfl)
  · exact (aw2 (i := 83) rfl rfl)
  · exact (aw2 (i := 85) rfl rfl)
  · exact (aw2 (i := 87) rfl rfl)
  · exact (aw2 (i := 89) rfl rfl)
  , by decide +kernel, by decide +kernel⟩
theorem cl_1 : ClP 1 := ⟨RC1, TC1, rfl, fun w hw => by
  have h2 : w ∈ [u_lay RC1 TC1 0, u_lay RC1 TC1 1, u_lay RC1 TC1 2, u_lay RC1 TC1 3, u_lay RC1 TC1 4, u_lay RC1 TC1 5, u_lay RC1 TC1 6, u_lay RC1 TC1 7, u_lay RC1 TC1 8, u_lay RC1 TC1 9, u_lay RC1 TC1 10, u_lay RC1 TC1 11] := hw
  simp only [List.mem_cons, List.not_mem_nil, or_false] at h2
  rcases h2 with rfl | rfl | rfl | rfl | rfl | rfl | rfl | rfl | rfl | rfl | rfl | rfl
  · exact (aw1 (i := 156) rfl rfl)
  · exact (aw1 (i := 158) rfl rfl)
  · exact (aw1 (i := 160) rfl rfl)
  · exact (aw1 (i := 162) rfl rfl)
  · exact (aw1 (i := 164) rfl rfl)
  · exact (aw1 (i := 166) rfl rfl)
  · exact (aw1 (i := 168) rfl rfl)
  · exact (aw1 (i := 170) rfl rfl)
  · exact (aw1 (i := 172) rfl rfl)
  · exact (aw1 (i := 174) rfl rfl)
  · exact (aw1 (i := 176) rfl rfl)
  · exact (aw1 (i := 178) rfl rfl)
  , by decide +kernel, by decide +kernel⟩
theorem cl_2 : ClP 2 := ⟨RC2, TC2, rfl, fun w hw => by
  have h2 : w ∈ [u_lay RC2 TC2 0, u_lay RC2 TC2 1, u_lay RC2 TC2 2] := hw
  simp only [List.mem_cons, List.not_mem_nil, or_false] at h2
  rcases h2 with rfl | rfl | rfl
  · exact (aw1 (i := 191) rfl rfl)
  · exact (aw1 (i := 193) rfl rfl)
  · exact (aw1 (i := 195) rfl rfl)
  , by decide +kernel, by decide +kernel⟩
theorem cl_3 : ClP 3 := ⟨RC3, TC3, rfl, fun w hw => by
  have h2 : w ∈ [u_lay RC3 TC3 0, u_lay RC3 TC3 1, u_lay RC3 TC3 2, u_lay RC3 TC3 3, u_lay RC3 TC3 4, u_lay RC3 TC3 5, u_lay RC3 TC3 6] := hw
  simp only [List.mem_cons, List.not_mem_nil, or_false] at h2
  rcases h2 with rfl | rfl | rfl | rfl | rfl | rfl | rfl
  · exact (aw1 (i := 110) rfl rfl)
  · exact (aw1 (i := 112) rfl rfl)
  · exact (aw1 (i := 114) rfl rfl)
  · exact (aw1 (i := 116) rfl rfl)
  · exact (aw1 (i := 118) rfl rfl)
  · exact (aw1 (i := 120) rfl rfl)
  · exact (aw1 (i := 122) rfl rfl)
  , by decide +kernel, by decide +kernel⟩
theorem cl_4 : ClP 4 := ⟨RC4, TC4, rfl, fun w hw => by
  have h2 : w ∈ [u_lay RC4 TC4 0, u_lay RC4 TC4 1, u_lay RC4 TC4 2, u_lay RC4 TC4 3, u_lay RC4 TC4 4, u_lay RC4 TC4 5, u_lay RC4 TC4 6, u_lay RC4 TC4 7, u_lay RC4 TC4 8, u_lay RC4 TC4 9] := hw
  simp only [List.mem_cons, List.not_mem_nil, or_false] at h2
  rcases h2 with rfl | rfl | rfl | rfl | rfl | rfl | rfl | rfl | rfl | rfl
  · exact (aw1 (i := 210) rfl rfl)
  · exact (aw1 (i := 212) rfl rfl)
  · exact (aw1 (i := 214) rfl rfl)
  · exact (aw1 (i := 216) rfl rfl)
  · exact (aw1 (i := 218) rfl rfl)
  · exact (aw1 (i := 220) rfl rfl)
  · exact (aw1 (i := 222) rfl rfl)
  · exact (aw1 (i := 224) rfl rfl)
  · exact (aw1 (i := 226) rfl rfl)
  · exact (aw1 (i := 228) rfl rfl)
  , by decide +kernel, by decide +kernel⟩
theorem cl_5 : ClP 5 := ⟨RC5, TC5, rfl, fun w hw => by
  have h2 : w ∈ [u_lay RC5 TC5 0, u_lay RC5 TC5 1, u_lay RC5 TC5 2, u_lay RC5 TC5 3, u_lay RC5 TC5 4, u_lay RC5 TC5 5, u_lay RC5 TC5 6, u_lay RC5 TC5 7, u_lay RC5 TC5 8, u_lay RC5 TC5 9, u_lay RC5 TC5 10, u_lay RC5 TC5 11] := hw
  simp only [List.mem_cons, List.not_mem_nil, or_false] at h2
  rcases h2 with rfl | rfl | rfl | rfl | rfl | rfl | rfl | rfl | rfl | rfl | rfl | rfl
  · exact (aw2 (i := 34) rfl rfl)
  · exact (aw2 (i := 36) rfl rfl)
  · exact (aw2 (i := 38) rfl rfl)
  · exact (aw2 (i := 40) rfl rfl)
  · exact (aw2 (i := 42) rfl rfl)
  · exact (aw2 (i := 44) rfl rfl)
  · exact (aw2 (i := 46) rfl rfl)
  · exact (aw2 (i := 48) rfl rfl)
  · exact (aw2 (i := 50) rfl rfl)
  · exact (aw2 (i := 52) rfl rfl)
  · exact (aw2 (i := 54) rfl rfl)
  · exact (aw2 (i := 56) rfl rfl)
  , by decide +kernel, by decide +kernel⟩
theorem cl_6 : ClP 6 := ⟨RC6, TC6, rfl, fun w hw => by
  have h2 : w ∈ [u_lay RC6 TC6 0, u_lay RC6 TC6 1] := hw
  simp only [List.mem_cons, List.not_mem_nil, or_false] at h2
  rcases h2 with rfl | rfl
  · exact (aw1 (i := 41) rfl rfl)
  · exact (aw1 (i := 43) rfl rfl)
  , by decide +kernel, by decide +kernel⟩
theorem cl_7 : ClP 7 := ⟨RC7, TC7, rfl, fun w hw => by
  have h2 : w ∈ [u_lay RC7 TC7 0, u_lay RC7 TC7 1, u_lay RC7 TC7 2, u_lay RC7 TC7 3] := hw
  simp only [List.mem_cons, List.not_mem_nil, or_false] at h2
  rcases h2 with rfl | rfl | rfl | rfl
  · exact (aw1 (i := 67) rfl rfl)
  · exact (aw1 (i := 69) rfl rfl)
  · exact (aw1 (i := 71) rfl rfl)
  · exact (aw1 (i := 73) rfl rfl)
  , by decide +kernel, by decide +kernel⟩
theorem cl_8 : ClP 8 := ⟨RC8, TC8, rfl, fun w hw => by
  have h2 : w ∈ [u_lay RC8 TC8 0, u_lay RC8 TC8 1, u_lay RC8 TC8 2, u_lay RC8 TC8 3] := hw
  simp only [List.mem_cons, List.not_mem_nil, or_false] at h2
  rcases h2 with rfl | rfl | rfl | rfl
  · exact (aw2 (i := 96) rfl rfl)
  · exact (aw2 (i := 98) rfl rfl)
  · exact (aw2 (i := 100) rfl rfl)
  · exact (aw2 (i := 102) rfl rfl)
  , by decide +kernel, by decide +kernel⟩
theorem cl_9 : ClP 9 := ⟨RC9, TC9, rfl, fun w hw => by
  have h2 : w ∈ [u_lay RC9 TC9 0, u_lay RC9 TC9 1, u_lay RC9 TC9 2, u_lay RC9 TC9 3, u_lay RC9 TC9 4, u_lay RC9 TC9 5, u_lay RC9 TC9 6, u_lay RC9 TC9 7, u_lay RC9 TC9 8, u_lay RC9 TC9 9, u_lay RC9 TC9 10, u_lay RC9 TC9 11, u_lay RC9 TC9 12, u_lay RC9 TC9 13, u_lay RC9 TC9 14, u_lay RC9 TC9 15, u_lay RC9 TC9 16, u_lay RC9 TC9 17, u_lay RC9 TC9 18, u_lay RC9 TC9 19, u_lay RC9 TC9 20, u_lay RC9 TC9 21, u_lay RC9 TC9 22, u_lay RC9 TC9 23, u_lay RC9 TC9 24, u_lay RC9 TC9 25, u_lay RC9 TC9 26, u_lay RC9 TC9 27, u_lay RC9 TC9 28, u_lay RC9 TC9 29, u_lay RC9 TC9 30, u_lay RC9 TC9 31, u_lay RC9 TC9 32, u_lay RC9 TC9 33, u_lay RC9 TC9 34, u_lay RC9 TC9 35, u_lay RC9 TC9 36, u_lay RC9 TC9 37, u_lay RC9 TC9 38, u_lay RC9 TC9 39, u_lay RC9 TC9 40, u_lay RC9 TC9 41, u_lay RC9 TC9 42, u_lay RC9 TC9 43, u_lay RC9 TC9 44, u_lay RC9 TC9 45, u_lay RC9 TC9 46, u_lay RC9 TC9 47, u_lay RC9 TC9 48, u_lay RC9 TC9 49, u_lay RC9 TC9 50, u_lay RC9 TC9 51, u_lay RC9 TC9 52, u_lay RC9 TC9 53, u_lay RC9 TC9 54, u_lay RC9 TC9 55] := hw
  simp only [List.mem_cons, List.not_mem_nil, or_false] at h2
  rcases h2 with rfl | rfl | rfl | rfl | rfl | rfl | rfl | rfl | rfl | rfl | rfl | rfl | rfl | rfl | rfl | rfl | rfl | rfl | rfl | rfl | rfl | rfl | rfl | rfl | rfl | rfl | rfl | rfl | rfl | rfl | rfl | rfl | rfl | rfl | rfl | rfl | rfl | rfl | rfl | rfl | rfl | rfl | rfl | rfl | rfl | rfl | rfl | rfl | rfl | rfl | rfl | rfl | rfl | rfl | rfl | rfl
  · exact (aw4 (i := 146) rfl rfl)
  · exact (aw4 (i := 148) rfl rfl)
  · exact (aw4 (i := 150) rfl rfl)
  · exact (aw4 (i := 152) rfl rfl)
  · exact (aw4 (i := 154) rfl rfl)
  · exact (aw4 (i := 156) rfl rfl)
  · exact (aw4 (i := 158) rfl rfl)
  · exact (aw4 (i := 160) rfl rfl)
  · exact (aw4 (i := 162) rfl rfl)
  · exact (aw4 (i := 164) rfl rfl)
  · exact (aw4 (i := 166) rfl rfl)
  · exact (aw4 (i := 168) rfl rfl)
  · exact (aw4 (i := 170) rfl rfl)
  · exact (aw4 (i := 172) rfl rfl)
  · exact (aw4 (i := 174) rfl rfl)
  · exact (aw4 (i := 176) rfl rfl)
  · exact (aw4 (i := 178) rfl rfl)
  · exact (aw4 (i := 180) rfl rfl)
  · exact (aw4 (i := 182) rfl rfl)
  · exact (aw4 (i := 184) rfl rfl)
  · exact (aw4 (i := 186) rfl rfl)
  · exact (aw4 (i := 188) rfl rfl)
  · exact (aw4 (i := 190) rfl rfl)
  · exact (aw4 (i := 192) rfl rfl)
  · exact (aw4 (i := 194) rfl rfl)
  · exact (aw4 (i := 196) rfl rfl)
  · exact (aw4 (i := 198) rfl rfl)
  · exact (aw4 (i := 200) rfl rfl)
  · exact (aw4 (i := 202) rfl rfl)
  · exact (aw4 (i := 204) rfl rfl)
  · exact (aw4 (i := 206) rfl rfl)
  · exact (aw4 (i := 208) rfl rfl)
  · exact (aw4 (i := 210) rfl rfl)
  · exact (aw4 (i := 212) rfl rfl)
  · exact (aw4 (i := 214) rfl rfl)
  · exact (aw4 (i := 216) rfl rfl)
  · exact (aw4 (i := 218) rfl rfl)
  · exact (aw4 (i := 220) rfl rfl)
  · exact (aw4 (i := 222) rfl rfl)
  · exact (aw4 (i := 224) rfl rfl)
  · exact (aw4 (i := 226) rfl rfl)
  · exact (aw4 (i := 228) rfl rfl)
  · exact (aw4 (i := 230) rfl rfl)
  · exact (aw4 (i := 232) rfl rfl)
  · exact (aw4 (i := 234) rfl rfl)
  · exact (aw4 (i := 236) rfl rfl)
  · exact (aw4 (i := 238) rfl rfl)
  · exact (aw5 (i := 0) rfl rfl)
  · exact (aw5 (i := 2) rfl rfl)
  · exact (aw5 (i := 4) rfl rfl)
  · exact (aw5 (i := 6) rfl rfl)
  · exact (aw5 (i := 8) rfl rfl)
  · exact (aw5 (i := 10) rfl rfl)
  · exact (aw5 (i := 12) rfl rfl)
  · exact (aw5 (i := 14) rfl rfl)
  · exact (aw5 (i := 16) rfl rfl)
  , by decide +kernel, by decide +kernel⟩
