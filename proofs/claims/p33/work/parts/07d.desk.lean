/-! what the office's questions answer, in terms of partings -/
def Gn (t : Nat → Nat) (n : Nat) (T : Nat → Int32) (Lf : Nat → Nat) (k : Nat) (wo : Int32) (ns nl : Nat) (P : Nat → Prop) : Prop := ∃ (f lf : Nat → Nat) (C : Nat → Int32) (ps : Nat → Nat) (g : Nat), PartC t n T Lf k wo ns nl f lf C ps g ∧ P g
def UC (t : Nat → Nat) (n : Nat) (T : Nat → Int32) (Lf : Nat → Nat) (k cnt : Nat) (r : Int32) : Prop :=
  (∃ c, c < k ∧ r = nI c ∧ Gn t n T Lf k (nI c) 0 0 (fun g => g ≤ cnt) ∧ ∀ j, j < c → Gn t n T Lf k (nI j) 0 0 (fun g => cnt < g)) ∨ (r = -1 ∧ ∀ j, j < k → Gn t n T Lf k (nI j) 0 0 (fun g => cnt < g))
def Nn (t : Nat → Nat) (n : Nat) (T : Nat → Int32) (Lf : Nat → Nat) (k m s g : Nat) : Prop := Gn t n T Lf k (-1) s m (fun z => z = g)
def BI (t : Nat → Nat) (n : Nat) (T : Nat → Int32) (Lf : Nat → Nat) (k m i : Nat) (bb : Int32) (fw : Nat) : Prop :=
  (i = 0 ∧ bb = -1 ∧ fw = 0) ∨ ∃ s, s < i ∧ s + m ≤ n ∧ s ≤ 24 ∧ bb = nI s ∧ fw ≤ 24 ∧ Nn t n T Lf k m s fw ∧ (∀ j, j < s → ∃ g, Nn t n T Lf k m j g ∧ fw < g) ∧ ∀ j, s < j → j < i → ∃ g, Nn t n T Lf k m j g ∧ fw ≤ g
def BS (t : Nat → Nat) (n : Nat) (T : Nat → Int32) (Lf : Nat → Nat) (k m : Nat) (r : Int32) : Prop :=
  (n < m ∧ r = -1) ∨ ∃ s fw, s + m ≤ n ∧ r = nI s ∧ Nn t n T Lf k m s fw ∧ (∀ j, j < s → ∃ g, Nn t n T Lf k m j g ∧ fw < g) ∧ ∀ j, s < j → j + m ≤ n → ∃ g, Nn t n T Lf k m j g ∧ fw ≤ g
theorem nI_m1 {s : Nat} (h : s < 2 ^ 31) : ¬ nI s = -1 := fun q => nI_pos h (by rw [q]; decide)
theorem bi_0 {t : Nat → Nat} {n : Nat} {T : Nat → Int32} {Lf : Nat → Nat} {k m : Nat} : BI t n T Lf k m 0 (-1) 0 := Or.inl ⟨rfl, rfl, rfl⟩
theorem bi_b {t : Nat → Nat} {n : Nat} {T : Nat → Int32} {Lf : Nat → Nat} {k m i : Nat} {bb : Int32} {fw : Nat} (h : BI t n T Lf k m i bb fw) : fw ≤ 24 := by
  rcases h with ⟨-, -, h⟩ | ⟨s, -, -, -, -, h, -⟩
  · omega
  · exact h
theorem bi_1 {t : Nat → Nat} {n : Nat} {T : Nat → Int32} {Lf : Nat → Nat} {k m i : Nat} {bb : Int32} {fw g : Nat} (h : BI t n T Lf k m i bb fw) (hb : bb = -1) (hN : Nn t n T Lf k m i g) (hg : g ≤ 24) (hi : i + m ≤ n) : BI t n T Lf k m (i + 1) (nI i) g := by
  rcases h with ⟨rfl, -, -⟩ | ⟨s, -, -, h3, h4, -⟩
  · exact Or.inr ⟨0, by omega, hi, by omega, rfl, hg, hN, fun j hj => absurd hj (Nat.not_lt_zero _), fun j h1 h2 => by omega⟩
  · exact absurd (h4.symm.trans hb) (nI_m1 (by omega))
theorem bi_2 {t : Nat → Nat} {n : Nat} {T : Nat → Int32} {Lf : Nat → Nat} {k m i : Nat} {bb : Int32} {fw g : Nat} (h : BI t n T Lf k m i bb fw) (hb : ¬ bb = -1) (hN : Nn t n T Lf k m i g) (hg : g < fw) (hi : i + m ≤ n) (h24 : i ≤ 24) : BI t n T Lf k m (i + 1) (nI i) g := by
  rcases h with ⟨-, h, -⟩ | ⟨s, h1, h2, h3, h4, h5, h6, h7, h8⟩
  · exact absurd h hb
  · refine Or.inr ⟨i, by omega, hi, h24, rfl, by omega, hN, fun j hj => ?_, fun j a b => by omega⟩
    rcases (by omega : j < s ∨ j = s ∨ s < j) with z | z | z
    · obtain ⟨g', a, b⟩ := h7 j z
      exact ⟨g', a, by omega⟩
    · subst z; exact ⟨fw, h6, hg⟩
    · obtain ⟨g', a, b⟩ := h8 j z hj
      exact ⟨g', a, by omega⟩
theorem bi_3 {t : Nat → Nat} {n : Nat} {T : Nat → Int32} {Lf : Nat → Nat} {k m i : Nat} {bb : Int32} {fw g : Nat} (h : BI t n T Lf k m i bb fw) (hb : ¬ bb = -1) (hN : Nn t n T Lf k m i g) (hg : fw ≤ g) : BI t n T Lf k m (i + 1) bb fw := by
  rcases h with ⟨-, h, -⟩ | ⟨s, h1, h2, h3, h4, h5, h6, h7, h8⟩
  · exact absurd h hb
  · exact Or.inr ⟨s, by omega, h2, h3, h4, h5, h6, h7, fun j a b => by
      by_cases e : j = i
      · subst e; exact ⟨g, hN, hg⟩
      · exact h8 j a (by omega)⟩
theorem bi_e {t : Nat → Nat} {n : Nat} {T : Nat → Int32} {Lf : Nat → Nat} {k m i : Nat} {bb : Int32} {fw : Nat} (h : BI t n T Lf k m i bb fw) (hi : n < i + m) : BS t n T Lf k m bb := by
  rcases h with ⟨rfl, h, -⟩ | ⟨s, h1, h2, h3, h4, h5, h6, h7, h8⟩
  · exact Or.inl ⟨by omega, h⟩
  · exact Or.inr ⟨s, fw, h2, h4, h6, h7, fun j a b => h8 j a (by omega)⟩
noncomputable def mlN (Lf : Nat → Nat) (k : Nat) : UInt64 := if k = 0 then FP.dconst0 else FP.ddiv (FP.i2d (nI (sN Lf k))) (FP.i2d (nI k))
theorem ml_dec : ∀ a, a < 33 → ∀ b, b < 9 → 0 < b → FP.ddiv (FP.i2d (nI a)) (FP.i2d (nI b)) &&& 0x7fffffffffffffff ≤ 0x7ff0000000000000 := by decide +kernel
theorem ml_nan {a b : Nat} (ha : a < 33) (hb : b < 9) (h0 : 0 < b) : vf_n64 (FP.ddiv (FP.i2d (nI a)) (FP.i2d (nI b))) := by
  unfold vf_n64
  exact ml_dec a ha b hb h0
noncomputable def dcN (Lf : Nat → Nat) (C : Nat → Int32) (ps : Nat → Nat) (cnt : Nat) (c : Nat) (d : Int64) : Int64 := wn2 (wn2 d (nI (Lf c)).toInt64) (nI (cN (fun j => C (ps j) = nI c) cnt)).toInt64
def dwN (t : Nat → Nat) (j : Nat) (d : Int64) : Int64 := wn2 d (nI (t j)).toInt64
def dpN (C : Nat → Int32) (ps : Nat → Nat) (g : Nat) (d : Int64) : Int64 := wn2 (wn2 d (C (ps g)).toInt64) (nI (ps g)).toInt64
