/-! what the law asks of one look at the office -/
abbrev rm_L_law : Room := room_1
theorem C_rng {C : Nat → Int32} {ps : Nat → Nat} {g k : Nat} (hk : k ≤ 8) (h : (C (ps g) = -1) ∨ ∃ j, j < k ∧ C (ps g) = nI j) : ¬ C (ps g) < -1 ∧ C (ps g) < nI k := by
  rcases h with h | ⟨j, hj, h⟩
  · rw [h]
    refine ⟨by decide, ?_⟩
    rcases (by omega : k = 0 ∨ k = 1 ∨ k = 2 ∨ k = 3 ∨ k = 4 ∨ k = 5 ∨ k = 6 ∨ k = 7 ∨ k = 8) with rfl | rfl | rfl | rfl | rfl | rfl | rfl | rfl | rfl <;> decide
  · rw [h]
    refine ⟨fun q => ?_, (nI_ltI (by omega) (by omega)).mpr hj⟩
    rcases (by omega : j = 0 ∨ j = 1 ∨ j = 2 ∨ j = 3 ∨ j = 4 ∨ j = 5 ∨ j = 6 ∨ j = 7) with rfl | rfl | rfl | rfl | rfl | rfl | rfl | rfl <;> exact absurd q (by decide)
theorem z_max3 {x : Nat} (h : x < 1000) : (if nI 0 < nI 3 * (nI x - nI 10) then nI 3 * (nI x - nI 10) else nI 0) = nI (3 * (x - 10)) := by
  by_cases q : 10 ≤ x
  · rw [pk_sub q, pk_mul]
    exact z_max0 (by omega)
  · have hx : x = 0 ∨ x = 1 ∨ x = 2 ∨ x = 3 ∨ x = 4 ∨ x = 5 ∨ x = 6 ∨ x = 7 ∨ x = 8 ∨ x = 9 := by omega
    rcases hx with rfl | rfl | rfl | rfl | rfl | rfl | rfl | rfl | rfl | rfl <;> decide
theorem z_lt2 {c c2 : Nat} (hc : c < 1000) (hc2 : c2 < 1000) (h : c ≤ c2 + 2) : ¬ nI c2 < nI c - nI 2 := by
  by_cases q : 2 ≤ c
  · rw [pk_sub q]
    exact fun z => by have := (nI_ltI (by omega) (by omega)).mp z; omega
  · have hneg : nI c - nI 2 < 0 := pk_sneg (by decide) (by omega)
    exact fun z => nI_pos (n := c2) (by omega) (Int32.lt_trans z hneg)
theorem ut_b {q : Nat} (hq : q ≤ 9) (s : Nat) : 1 ≤ utN q s ∧ utN q s ≤ 20 := by
  obtain ⟨j, h1, h2, h3⟩ := gB_near hq s
  have key : ∀ m j, j ≤ m → 1 ≤ j → gB q (s + j) → ∃ i, 1 ≤ i ∧ i ≤ j ∧ gB q (s + i) ∧ ∀ a, 1 ≤ a → a < i → ¬ gB q (s + a) := by
    intro m
    induction m with
    | zero => intro j a b; omega
    | succ m ih =>
      intro j a b c
      by_cases z : ∃ a, 1 ≤ a ∧ a < j ∧ gB q (s + a)
      · obtain ⟨x, x1, x2, x3⟩ := z
        obtain ⟨i, i1, i2, i3⟩ := ih x (by omega) x1 x3
        exact ⟨i, i1, by omega, i3⟩
      · exact ⟨j, b, Nat.le_refl _, c, fun a a1 a2 a3 => z ⟨a, a1, a2, a3⟩⟩
  obtain ⟨i, i1, i2, i3, i4⟩ := key j j (Nat.le_refl _) h1 h3
  have e := utN_eq i1 i3 i4
  omega
theorem ctW_s {t : Nat → Nat} {n : Nat} {T : Nat → Int32} {Lf : Nat → Nat} {k : Nat} {f lf : Nat → Nat} {C : Nat → Int32} {ps : Nat → Nat} {cnt g x : Nat} (h : PartC t n T Lf k (-1) 0 0 f lf C ps cnt) (hk : k ≤ 8) (hL : ∀ c, c < k → 2 ≤ Lf c ∧ Lf c ≤ 4) (hg : g < cnt) (hx : (lf (ps g) = 1 ∧ x = wc (t (posN lf g))) ∨ (lf (ps g) ≠ 1 ∧ x = 1)) : sN (ctW C ps t) g + x = sN (ctW C ps t) (g + 1) := by
  have hp := (h.2.1 g hg).1
  rcases hx with ⟨a, rfl⟩ | ⟨a, rfl⟩
  · rw [hp] at a
    show _ = sN (ctW C ps t) g + ctW C ps t g
    rw [ctW_2 h hk hL hg a]
  · rw [hp] at a
    show _ = sN (ctW C ps t) g + ctW C ps t g
    rw [ctW_1 h hk hL hg a]
def LC (pg : Program) (l : Launch) (sv : State) (mi : MethodId) (ag : Array Value) (cd : Code) (D : va_G) (cI : ClassId) (A : Nat → Prop) (b : Nat) : Prop :=
  pg.tables.exec = Jvm.exec ∧ cd.code = cL_law ∧ cd.maxLocals = 19 ∧ (∀ w ∈ wsL_law, w.before ag sv = true) ∧ sv.vm.findClass RL = some mi.cls ∧ va_K D vwCl [(cI, .int)] sv ∧ zE D sv ∧ scr b sv sv.heap ∧ b < sv.heap.size ∧ ¬ A b ∧ ∀ q, sv.heap.size ≤ q → A q
theorem cost_or (n x : Nat) : (n = 0 ∧ costN n x = 0) ∨ (0 < n ∧ costN n x = 20 + 3 * (x - 10)) := by
  unfold costN
  by_cases h : n = 0
  · exact Or.inl ⟨h, if_pos h⟩
  · exact Or.inr ⟨by omega, if_neg h⟩
