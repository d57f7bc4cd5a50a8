/-! what the law's last look rests on -/
theorem C_1 {t : Nat → Nat} {n : Nat} {T : Nat → Int32} {Lf : Nat → Nat} {k : Nat} {f lf : Nat → Nat} {C : Nat → Int32} {ps : Nat → Nat} {cnt : Nat} (h : PartC t n T Lf k (-1) 0 0 f lf C ps cnt) (hk : k ≤ 8) (hL : ∀ c, c < k → 2 ≤ Lf c ∧ Lf c ≤ 4) {w : Nat} (hw : w < n) (h1 : lf w = 1) : C w = -1 := by
  rcases grp h hk hL hw with ⟨q, -⟩ | ⟨j, -, -, -, -, -, q⟩
  · exact q
  · exact absurd h1 q
/-- a group that is none, or one of the codes -/
theorem C_k {t : Nat → Nat} {n : Nat} {T : Nat → Int32} {Lf : Nat → Nat} {k : Nat} {f lf : Nat → Nat} {C : Nat → Int32} {ps : Nat → Nat} {cnt : Nat} (h : PartC t n T Lf k (-1) 0 0 f lf C ps cnt) (hk : k ≤ 8) (hL : ∀ c, c < k → 2 ≤ Lf c ∧ Lf c ≤ 4) {g : Nat} (hg : g < cnt) : (C (ps g) < 0 ∧ C (ps g) = -1 ∧ lf (ps g) = 1) ∨ ∃ j, j < k ∧ C (ps g) = nI j ∧ lf (ps g) = Lf j ∧ ps g + Lf j ≤ n ∧ ∀ p, p < Lf j → nI (t (ps g + p)) = T (j * 4 + p) := by
  have hp := h.2.1 g hg
  rcases grp h hk hL hp.2 with ⟨a, b⟩ | ⟨j, a, b, c, d, -⟩
  · rw [hp.1]; exact Or.inl ⟨by rw [a]; decide, a, b⟩
  · rw [hp.1]; exact Or.inr ⟨j, a, b, c, d.2.1, d.2.2⟩
theorem nI_ninj {a b : Nat} (ha : a < 100) (hb : b < 100) (h : nI a = nI b) : a = b := (nI_eq (by omega) (by omega)).mp h
theorem us_t {C : Nat → Int32} {ps u : Nat → Nat} {k g : Nat} (hk : k ≤ 8) (hu : ∀ c, c < k → u c = cN (fun j => C (ps j) = nI c) g) (h : C (ps g) < 0) : ∀ c, c < k → u c = cN (fun j => C (ps j) = nI c) (g + 1) := by
  intro c hc
  rw [cN_f (P := fun j => C (ps j) = nI c) (fun q => nI_pos (n := c) (by omega) (by rw [← q]; exact h))]
  exact hu c hc
theorem us_f {C : Nat → Int32} {ps u : Nat → Nat} {k g j : Nat} (hk : k ≤ 8) (hu : ∀ c, c < k → u c = cN (fun j => C (ps j) = nI c) g) (hj : j < k) (h : C (ps g) = nI j) : ∀ c, c < k → updN u j (u j + 1) c = cN (fun j => C (ps j) = nI c) (g + 1) := by
  intro c hc
  by_cases e : c = j
  · rw [e, updN_s, cN_t (P := fun i => C (ps i) = nI j) h, hu j hj]
  · rw [updN_n _ e, cN_f (P := fun i => C (ps i) = nI c) (fun q => e (nI_ninj (by omega) (by omega) (q.symm.trans h)))]
    exact hu c hc
theorem dc_0 : Op.cmpValue (FP.dcmp FP.dconst0 FP.dconst0) .l = 0 := by decide +kernel
theorem dc_dec : ∀ a, a < 33 → ∀ b, b < 9 → 0 < b → Op.cmpValue (FP.dcmp (FP.ddiv (FP.i2d (nI a)) (FP.i2d (nI b))) (FP.ddiv (FP.i2d (nI a)) (FP.i2d (nI b)))) .l = 0 := by decide +kernel
