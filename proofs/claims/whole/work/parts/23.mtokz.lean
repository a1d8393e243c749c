/-! the reference cuts the tape -/
theorem sp_of {c : Nat → Int} {p e i : Nat} (L : Nat) (hL : e - p = L) (hi : stN.getD i 0 = L) (h : ∀ t, t < L → c (p + t) = stc i t) : spP c p e i := ⟨by rw [hi]; exact hL, by rw [hi]; exact h⟩
theorem pk1 {c : Nat → Int} {p : Nat} : pkT 256 c 1 p 0 = (c p).toNat := by simp [pkT]
theorem pk2 {c : Nat → Int} {p : Nat} : pkT 256 c 2 p 0 = (c p).toNat * 256 + (c (p + 1)).toNat := by simp [pkT]
theorem pk3 {c : Nat → Int} {p : Nat} : pkT 256 c 3 p 0 = ((c p).toNat * 256 + (c (p + 1)).toNat) * 256 + (c (p + 2)).toNat := by simp [pkT]
theorem pk4 {c : Nat → Int} {p : Nat} : pkT 256 c 4 p 0 = (((c p).toNat * 256 + (c (p + 1)).toNat) * 256 + (c (p + 2)).toNat) * 256 + (c (p + 3)).toNat := by simp [pkT]
theorem pk5 {c : Nat → Int} {p : Nat} : pkT 256 c 5 p 0 = ((((c p).toNat * 256 + (c (p + 1)).toNat) * 256 + (c (p + 2)).toNat) * 256 + (c (p + 3)).toNat) * 256 + (c (p + 4)).toNat := by simp [pkT]
theorem wOf_sp {c : Nat → Int} {p e : Nat} (h1 : 1 ≤ e - p) (h5 : e - p ≤ 5) (hc : ∀ i, p ≤ i → i < e → 32 ≤ c i ∧ c i ≤ 126) : ((pkT 256 c (e - p) p 0 : Nat) : Int) = 26995 ↔ spP c p e 4 := by
  constructor
  · intro h
    have c0 := hc p (by omega) (by omega)
    have hL : e - p = 1 ∨ e - p = 2 ∨ e - p = 3 ∨ e - p = 4 ∨ e - p = 5 := by omega
    rcases hL with hL | hL | hL | hL | hL <;> rw [hL] at h
    · rw [pk1] at h; omega
    · rw [pk2] at h
      have c1 := hc (p + 1) (by omega) (by omega)
      refine sp_of 2 hL rfl (fun t ht => ?_)
      have ht2 : t = 0 ∨ t = 1 := by omega
      rcases ht2 with rfl | rfl
      · show c p = 105; omega
      · show c (p + 1) = 115; omega
    · rw [pk3] at h; omega
    · rw [pk4] at h; omega
    · rw [pk5] at h; omega
  · rintro ⟨a, b⟩
    have a : e - p = 2 := a
    have b0 : c p = 105 := b 0 (by decide)
    have b1 : c (p + 1) = 115 := b 1 (by decide)
    rw [a, pk2, b0, b1]; rfl
theorem wOf_co {c : Nat → Int} {p e : Nat} (h1 : 1 ≤ e - p) (h5 : e - p ≤ 5) (hc : ∀ i, p ≤ i → i < e → 32 ≤ c i ∧ c i ≤ 126) : ((pkT 256 c (e - p) p 0 : Nat) : Int) = 427071729268 ↔ spP c p e 0 := by
  constructor
  · intro h
    have c0 := hc p (by omega) (by omega)
    have hL : e - p = 1 ∨ e - p = 2 ∨ e - p = 3 ∨ e - p = 4 ∨ e - p = 5 := by omega
    rcases hL with hL | hL | hL | hL | hL <;> rw [hL] at h
    · rw [pk1] at h; omega
    · have c1 := hc (p + 1) (by omega) (by omega)
      rw [pk2] at h; omega
    · have c1 := hc (p + 1) (by omega) (by omega)
      have c2 := hc (p + 2) (by omega) (by omega)
      rw [pk3] at h; omega
    · have c1 := hc (p + 1) (by omega) (by omega)
      have c2 := hc (p + 2) (by omega) (by omega)
      have c3 := hc (p + 3) (by omega) (by omega)
      rw [pk4] at h; omega
    · have c1 := hc (p + 1) (by omega) (by omega)
      have c2 := hc (p + 2) (by omega) (by omega)
      have c3 := hc (p + 3) (by omega) (by omega)
      have c4 := hc (p + 4) (by omega) (by omega)
      rw [pk5] at h
      refine sp_of 5 hL rfl (fun t ht => ?_)
      have ht2 : t = 0 ∨ t = 1 ∨ t = 2 ∨ t = 3 ∨ t = 4 := by omega
      rcases ht2 with rfl | rfl | rfl | rfl | rfl
      · show c p = 99; omega
      · show c (p + 1) = 111; omega
      · show c (p + 2) = 117; omega
      · show c (p + 3) = 110; omega
      · show c (p + 4) = 116; omega
  · rintro ⟨a, b⟩
    have a : e - p = 5 := a
    have b0 : c p = 99 := b 0 (by decide)
    have b1 : c (p + 1) = 111 := b 1 (by decide)
    have b2 : c (p + 2) = 117 := b 2 (by decide)
    have b3 : c (p + 3) = 110 := b 3 (by decide)
    have b4 : c (p + 4) = 116 := b 4 (by decide)
    rw [a, pk5, b0, b1, b2, b3, b4]; rfl
theorem wOf_su {c : Nat → Int} {p e : Nat} (h1 : 1 ≤ e - p) (h5 : e - p ≤ 5) (hc : ∀ i, p ≤ i → i < e → 32 ≤ c i ∧ c i ≤ 126) : ((pkT 256 c (e - p) p 0 : Nat) : Int) = 7566701 ↔ spP c p e 1 := by
  constructor
  · intro h
    have c0 := hc p (by omega) (by omega)
    have hL : e - p = 1 ∨ e - p = 2 ∨ e - p = 3 ∨ e - p = 4 ∨ e - p = 5 := by omega
    rcases hL with hL | hL | hL | hL | hL <;> rw [hL] at h
    · rw [pk1] at h; omega
    · have c1 := hc (p + 1) (by omega) (by omega)
      rw [pk2] at h; omega
    · have c1 := hc (p + 1) (by omega) (by omega)
      have c2 := hc (p + 2) (by omega) (by omega)
      rw [pk3] at h
      refine sp_of 3 hL rfl (fun t ht => ?_)
      have ht2 : t = 0 ∨ t = 1 ∨ t = 2 := by omega
      rcases ht2 with rfl | rfl | rfl
      · show c p = 115; omega
      · show c (p + 1) = 117; omega
      · show c (p + 2) = 109; omega
    · rw [pk4] at h; omega
    · rw [pk5] at h; omega
  · rintro ⟨a, b⟩
    have a : e - p = 3 := a
    have b0 : c p = 115 := b 0 (by decide)
    have b1 : c (p + 1) = 117 := b 1 (by decide)
    have b2 : c (p + 2) = 109 := b 2 (by decide)
    rw [a, pk3, b0, b1, b2]; rfl
theorem wOf_le {c : Nat → Int} {p e : Nat} (h1 : 1 ≤ e - p) (h5 : e - p ≤ 5) (hc : ∀ i, p ≤ i → i < e → 32 ≤ c i ∧ c i ≤ 126) : ((pkT 256 c (e - p) p 0 : Nat) : Int) = 465557353332 ↔ spP c p e 2 := by
  constructor
  · intro h
    have c0 := hc p (by omega) (by omega)
    have hL : e - p = 1 ∨ e - p = 2 ∨ e - p = 3 ∨ e - p = 4 ∨ e - p = 5 := by omega
    rcases hL with hL | hL | hL | hL | hL <;> rw [hL] at h
    · rw [pk1] at h; omega
    · have c1 := hc (p + 1) (by omega) (by omega)
      rw [pk2] at h; omega
    · have c1 := hc (p + 1) (by omega) (by omega)
      have c2 := hc (p + 2) (by omega) (by omega)
      rw [pk3] at h; omega
    · have c1 := hc (p + 1) (by omega) (by omega)
      have c2 := hc (p + 2) (by omega) (by omega)
      have c3 := hc (p + 3) (by omega) (by omega)
      rw [pk4] at h; omega
    · have c1 := hc (p + 1) (by omega) (by omega)
      have c2 := hc (p + 2) (by omega) (by omega)
      have c3 := hc (p + 3) (by omega) (by omega)
      have c4 := hc (p + 4) (by omega) (by omega)
      rw [pk5] at h
      refine sp_of 5 hL rfl (fun t ht => ?_)
      have ht2 : t = 0 ∨ t = 1 ∨ t = 2 ∨ t = 3 ∨ t = 4 := by omega
      rcases ht2 with rfl | rfl | rfl | rfl | rfl
      · show c p = 108; omega
      · show c (p + 1) = 101; omega
      · show c (p + 2) = 97; omega
      · show c (p + 3) = 115; omega
      · show c (p + 4) = 116; omega
  · rintro ⟨a, b⟩
    have a : e - p = 5 := a
    have b0 : c p = 108 := b 0 (by decide)
    have b1 : c (p + 1) = 101 := b 1 (by decide)
    have b2 : c (p + 2) = 97 := b 2 (by decide)
    have b3 : c (p + 3) = 115 := b 3 (by decide)
    have b4 : c (p + 4) = 116 := b 4 (by decide)
    rw [a, pk5, b0, b1, b2, b3, b4]; rfl
theorem wOf_mo {c : Nat → Int} {p e : Nat} (h1 : 1 ≤ e - p) (h5 : e - p ≤ 5) (hc : ∀ i, p ≤ i → i < e → 32 ≤ c i ∧ c i ≤ 126) : ((pkT 256 c (e - p) p 0 : Nat) : Int) = 1836020596 ↔ spP c p e 3 := by
  constructor
  · intro h
    have c0 := hc p (by omega) (by omega)
    have hL : e - p = 1 ∨ e - p = 2 ∨ e - p = 3 ∨ e - p = 4 ∨ e - p = 5 := by omega
    rcases hL with hL | hL | hL | hL | hL <;> rw [hL] at h
    · rw [pk1] at h; omega
    · have c1 := hc (p + 1) (by omega) (by omega)
      rw [pk2] at h; omega
    · have c1 := hc (p + 1) (by omega) (by omega)
      have c2 := hc (p + 2) (by omega) (by omega)
      rw [pk3] at h; omega
    · have c1 := hc (p + 1) (by omega) (by omega)
      have c2 := hc (p + 2) (by omega) (by omega)
      have c3 := hc (p + 3) (by omega) (by omega)
      rw [pk4] at h
      refine sp_of 4 hL rfl (fun t ht => ?_)
      have ht2 : t = 0 ∨ t = 1 ∨ t = 2 ∨ t = 3 := by omega
      rcases ht2 with rfl | rfl | rfl | rfl
      · show c p = 109; omega
      · show c (p + 1) = 111; omega
      · show c (p + 2) = 115; omega
      · show c (p + 3) = 116; omega
    · rw [pk5] at h; omega
  · rintro ⟨a, b⟩
    have a : e - p = 4 := a
    have b0 : c p = 109 := b 0 (by decide)
    have b1 : c (p + 1) = 111 := b 1 (by decide)
    have b2 : c (p + 2) = 115 := b 2 (by decide)
    have b3 : c (p + 3) = 116 := b 3 (by decide)
    rw [a, pk4, b0, b1, b2, b3]; rfl
