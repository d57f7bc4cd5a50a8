/-! the line: repeats and losses of one group, of many; the first garbled one; sums and folds -/
theorem gB_d (k : Nat) : ∃ d, d < 10 ∧ (7 * d + k) % 10 = 9 := by
  rcases (by omega : k % 10 = 0 ∨ k % 10 = 1 ∨ k % 10 = 2 ∨ k % 10 = 3 ∨ k % 10 = 4 ∨ k % 10 = 5 ∨ k % 10 = 6 ∨ k % 10 = 7 ∨ k % 10 = 8 ∨ k % 10 = 9) with h | h | h | h | h | h | h | h | h | h
  · exact ⟨7, by omega, by omega⟩
  · exact ⟨4, by omega, by omega⟩
  · exact ⟨1, by omega, by omega⟩
  · exact ⟨8, by omega, by omega⟩
  · exact ⟨5, by omega, by omega⟩
  · exact ⟨2, by omega, by omega⟩
  · exact ⟨9, by omega, by omega⟩
  · exact ⟨6, by omega, by omega⟩
  · exact ⟨3, by omega, by omega⟩
  · exact ⟨0, by omega, by omega⟩
theorem gB_near {q : Nat} (hq : q ≤ 9) (s : Nat) : ∃ j, 1 ≤ j ∧ j ≤ 20 ∧ gB q (s + j) := by
  obtain ⟨k, hk⟩ : ∃ k, k = s / 10 + 1 := ⟨_, rfl⟩
  obtain ⟨d, hd, h9⟩ := gB_d k
  refine ⟨10 * k + d - s, by omega, by omega, ?_⟩
  unfold gB
  have h1 : s + (10 * k + d - s) = 10 * k + d := by omega
  have h2 : (10 * k + d) / 10 = k := by omega
  rw [h1, h2]
  omega
noncomputable def rpt (q s : Nat) : Nat := zif (gB q (s + 1)) (zif (gB q (s + 2)) (zif (gB q (s + 3)) 3 2) 1) 0
noncomputable def gst (q s : Nat) : Nat := zif (gB q (s + 1)) 1 0
noncomputable def lst (q s : Nat) : Nat := zif (gB q (s + 1) ∧ gB q (s + 2) ∧ gB q (s + 3) ∧ gB q (s + 4)) 1 0
theorem rpt_le (q s : Nat) : rpt q s ≤ 3 := by
  unfold rpt zif
  split
  · split
    · split <;> decide
    · decide
  · decide
theorem gst_le (q s : Nat) : gst q s ≤ 1 := by unfold gst zif; split <;> decide
theorem lst_le (q s : Nat) : lst q s ≤ 1 := by unfold lst zif; split <;> decide
theorem rpt_of {q s r : Nat} (hr : r ≤ 3) (h : ∀ j, j < r → gB q (s + 1 + j)) (he : r = 3 ∨ ¬ gB q (s + 1 + r)) : rpt q s = r := by
  unfold rpt
  rcases (by omega : r = 0 ∨ r = 1 ∨ r = 2 ∨ r = 3) with rfl | rfl | rfl | rfl
  · rw [zif_f (he.resolve_left (by decide))]
  · rw [zif_t (h 0 (by decide)), zif_f (he.resolve_left (by decide))]
  · rw [zif_t (h 0 (by decide)), zif_t (h 1 (by decide)), zif_f (he.resolve_left (by decide))]
  · rw [zif_t (h 0 (by decide)), zif_t (h 1 (by decide)), zif_t (h 2 (by decide))]
theorem lst_0 {q s r : Nat} (hr : r ≤ 3) (he : ¬ gB q (s + 1 + r)) : lst q s = 0 := by
  unfold lst
  refine zif_f (fun ⟨h1, h2, h3, h4⟩ => he ?_)
  rcases (by omega : r = 0 ∨ r = 1 ∨ r = 2 ∨ r = 3) with rfl | rfl | rfl | rfl
  · exact h1
  · exact h2
  · exact h3
  · exact h4
theorem lst_1 {q s r : Nat} (hr : r = 3) (h : ∀ j, j < r → gB q (s + 1 + j)) (he : gB q (s + 1 + r)) : lst q s = 1 := by
  subst hr
  exact zif_t ⟨h 0 (by decide), h 1 (by decide), h 2 (by decide), he⟩
noncomputable def seN (q s : Nat) : Nat → Nat
  | 0 => s
  | g + 1 => seN q s g + 1 + rpt q (seN q s g)
noncomputable def gfN (q s : Nat) : Nat → Nat
  | 0 => 0
  | g + 1 => gfN q s g + gst q (seN q s g)
noncomputable def akN (q s : Nat) : Nat → Nat
  | 0 => 0
  | g + 1 => akN q s g + rpt q (seN q s g)
noncomputable def gnN (q s : Nat) : Nat → Nat
  | 0 => 0
  | g + 1 => gnN q s g + lst q (seN q s g)
theorem seN_le (q s : Nat) : ∀ g, seN q s g ≤ s + 4 * g := by
  intro g
  induction g with
  | zero => exact Nat.le_refl _
  | succ g ih =>
    show seN q s g + 1 + rpt q (seN q s g) ≤ _
    have := rpt_le q (seN q s g)
    omega
theorem gnN_le (q s : Nat) : ∀ g, gnN q s g ≤ g := by
  intro g
  induction g with
  | zero => exact Nat.le_refl _
  | succ g ih =>
    show gnN q s g + lst q (seN q s g) ≤ _
    have := lst_le q (seN q s g)
    omega
noncomputable def qwF (s g : Nat) : Nat → Nat → Int32
  | 0, _ => -1
  | f + 1, w => zif (gnN w s g = 0) (nI w) (qwF s g f (w + 1))
theorem qw_t {s g w : Nat} (h : gnN w s g = 0) (hw : w ≤ 9) : qwF s g (10 - w) w = nI w := by
  rw [show 10 - w = (9 - w) + 1 by omega]
  exact zif_t h
theorem qw_f {s g w : Nat} (h : 0 < gnN w s g) (hw : w ≤ 9) : qwF s g (10 - w) w = qwF s g (10 - (w + 1)) (w + 1) := by
  rw [show 10 - w = (10 - (w + 1)) + 1 by omega]
  exact zif_f (by omega)
noncomputable def utN (q s : Nat) : Nat := Classical.epsilon (fun i => 1 ≤ i ∧ gB q (s + i) ∧ ∀ j, 1 ≤ j → j < i → ¬ gB q (s + j))
theorem utN_eq {q s i : Nat} (h1 : 1 ≤ i) (h2 : gB q (s + i)) (h3 : ∀ j, 1 ≤ j → j < i → ¬ gB q (s + j)) : i = utN q s := by
  have h := Classical.epsilon_spec (p := fun i => 1 ≤ i ∧ gB q (s + i) ∧ ∀ j, 1 ≤ j → j < i → ¬ gB q (s + j)) ⟨i, h1, h2, h3⟩
  have e : Classical.epsilon (fun i => 1 ≤ i ∧ gB q (s + i) ∧ ∀ j, 1 ≤ j → j < i → ¬ gB q (s + j)) = utN q s := rfl
  rw [e] at h
  obtain ⟨a1, a2, a3⟩ := h
  rcases Nat.lt_trichotomy i (utN q s) with z | z | z
  · exact absurd h2 (a3 i h1 z)
  · exact z
  · exact absurd a2 (h3 _ a1 z)
theorem sN_le {f : Nat → Nat} {b : Nat} : ∀ n, (∀ j, j < n → f j ≤ b) → sN f n ≤ b * n := by
  intro n
  induction n with
  | zero => intro _; exact Nat.zero_le _
  | succ n ih =>
    intro h
    have h1 := ih (fun j hj => h j (by omega))
    have h2 := h n (by omega)
    show sN f n + f n ≤ b * (n + 1)
    rw [Nat.mul_succ]
    omega
theorem sN_c {f g : Nat → Nat} : ∀ n, (∀ j, j < n → f j = g j) → sN f n = sN g n := by
  intro n
  induction n with
  | zero => intro _; rfl
  | succ n ih =>
    intro h
    show sN f n + f n = sN g n + g n
    rw [ih (fun j hj => h j (by omega)), h n (by omega)]
theorem wc_le (x : Nat) : wc x ≤ 2 := by unfold wc; split <;> decide
def costN (n x : Nat) : Nat := if n = 0 then 0 else 20 + 3 * (x - 10)
theorem z_maxs {x : Nat} (h : x < 2 ^ 30) : (if nI 0 < nI x - nI 10 then nI x - nI 10 else nI 0) = nI (x - 10) := by
  by_cases q : 10 ≤ x
  · rw [pk_sub q]
    exact z_max0 (by omega)
  · have hneg : nI x - nI 10 < 0 := pk_sneg (by decide) (by omega)
    have h2 : ¬ nI 0 < nI x - nI 10 := fun z => by
      have h3 : nI x - nI 10 < nI 0 := hneg
      exact absurd (Int32.lt_trans z h3) (by decide)
    rw [if_neg h2, show x - 10 = 0 by omega]
/-- a word or a code, as it is counted -/
noncomputable def ctW (C : Nat → Int32) (ps t : Nat → Nat) (g : Nat) : Nat := zif (C (ps g) = -1) (wc (t (ps g))) 1
theorem ctW_le (C : Nat → Int32) (ps t : Nat → Nat) (g : Nat) : ctW C ps t g ≤ 2 := by
  unfold ctW zif
  split
  · exact wc_le _
  · decide
def wn2 (d x : Int64) : Int64 := d * 31 + x
def fL (f : Nat → Int64 → Int64) (d : Int64) : Nat → Int64
  | 0 => d
  | i + 1 => f i (fL f d i)
