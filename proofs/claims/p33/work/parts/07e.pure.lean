/-! what the class's calls do to a book; numbers of a range -/
def isT (x : Int32) : Prop := ∃ j : Nat, j < 10 ∧ x = nI j
def isTN (x : Int32) : Prop := x = -1 ∨ ∃ j : Nat, j < 10 ∧ x = nI j
def acBad (x1 x2 x3 x4 : Int32) : Prop := (¬ isT x1 ∨ ¬ isT x2) ∨ (¬ isTN x3 ∨ ¬ isTN x4) ∨ (x3 = -1 ∧ ¬ x4 = -1)
def acDup (T : Nat → Int32) (k : Nat) (x1 x2 x3 x4 : Int32) : Prop := 8 ≤ k ∨ ∃ c, c < k ∧ T (c * 4 + 0) = x1 ∧ T (c * 4 + 1) = x2 ∧ T (c * 4 + 2) = x3 ∧ T (c * 4 + 3) = x4
def acT (T : Nat → Int32) (k : Nat) (x1 x2 x3 x4 : Int32) : Nat → Int32 := upd (upd (upd (upd T (k * 4) x1) (k * 4 + 1) x2) (k * 4 + 2) x3) (k * 4 + 3) x4
theorem clen_b (x3 x4 : Int32) : 2 ≤ clen x3 x4 ∧ clen x3 x4 ≤ 4 := by
  unfold clen
  split
  · split <;> decide
  · decide
theorem ac_L {Lf : Nat → Nat} {k : Nat} {x3 x4 : Int32} (hL : ∀ c, c < k → 2 ≤ Lf c ∧ Lf c ≤ 4) : ∀ c, c < k + 1 → 2 ≤ updN Lf k (clen x3 x4) c ∧ updN Lf k (clen x3 x4) c ≤ 4 := by
  intro c hc
  by_cases h : c = k
  · rw [h, updN_s]; exact clen_b x3 x4
  · rw [updN_n _ h]; exact hL c (by omega)
def dcT (T : Nat → Int32) (k j : Nat) : Nat → Int32 := va_cpy T T ((j + 1) * 4) (j * 4) ((k - j - 1) * 4)
def dcL (Lf : Nat → Nat) (k j : Nat) : Nat → Nat := va_cpy Lf Lf (j + 1) j (k - j - 1)
theorem dcL_at (Lf : Nat → Nat) {k j c : Nat} (hc : c < k - 1) : dcL Lf k j c = if c < j then Lf c else Lf (c + 1) := by
  unfold dcL
  by_cases h : c < j
  · rw [if_pos h, pk_cpy_out (Or.inl h)]
  · rw [if_neg h, pk_cpy_in (by omega) (by omega), show j + 1 + (c - j) = c + 1 by omega]
theorem dc_L {Lf : Nat → Nat} {k j : Nat} (hL : ∀ c, c < k → 2 ≤ Lf c ∧ Lf c ≤ 4) : ∀ c, c < k - 1 → 2 ≤ dcL Lf k j c ∧ dcL Lf k j c ≤ 4 := by
  intro c hc
  rw [dcL_at Lf hc]
  by_cases h : c < j
  · rw [if_pos h]; exact hL c (by omega)
  · rw [if_neg h]; exact hL (c + 1) (by omega)
theorem wr_t {t : Nat → Nat} {n j : Nat} (ht : ∀ i, i < n → t i < 10) (hj : j < 10) : ∀ i, i < n + 1 → updN t n j i < 10 := by
  intro i hi
  by_cases h : i = n
  · rw [h, updN_s]; exact hj
  · rw [updN_n _ h]; exact ht i (by omega)
theorem z_q19 {x : Int32} (h1 : ¬ x < nI 1) (h2 : x ≤ nI 9) : ∃ j : Nat, (1 ≤ j ∧ j ≤ 9) ∧ x = nI j := by
  have a1 : ¬ x < 0 := fun z => h1 (Int32.lt_trans z (by decide))
  obtain ⟨j, hj, rfl⟩ := nI_of a1
  exact ⟨j, ⟨Nat.not_lt.mp (fun z => h1 ((nI_ltI hj (by decide)).mpr z)), (nI_leI hj (by decide)).mp h2⟩, rfl⟩
theorem z_n19 {x : Int32} (h : x < nI 1 ∨ ¬ x ≤ nI 9) : ¬ ∃ j : Nat, (1 ≤ j ∧ j ≤ 9) ∧ x = nI j := by
  rintro ⟨j, hj, rfl⟩
  rcases h with h | h
  · have := (nI_ltI (by omega) (by decide)).mp h
    omega
  · exact h ((nI_leI (by omega) (by decide)).mpr hj.2)
theorem z_q24 {x : Int32} (h1 : ¬ x < nI 2) (h2 : x ≤ nI 4) : ∃ j : Nat, (2 ≤ j ∧ j ≤ 4) ∧ x = nI j := by
  have a1 : ¬ x < 0 := fun z => h1 (Int32.lt_trans z (by decide))
  obtain ⟨j, hj, rfl⟩ := nI_of a1
  exact ⟨j, ⟨Nat.not_lt.mp (fun z => h1 ((nI_ltI hj (by decide)).mpr z)), (nI_leI hj (by decide)).mp h2⟩, rfl⟩
theorem z_n24 {x : Int32} (h : x < nI 2 ∨ ¬ x ≤ nI 4) : ¬ ∃ j : Nat, (2 ≤ j ∧ j ≤ 4) ∧ x = nI j := by
  rintro ⟨j, hj, rfl⟩
  rcases h with h | h
  · have := (nI_ltI (by omega) (by decide)).mp h
    omega
  · exact h ((nI_leI (by omega) (by decide)).mpr hj.2)
