theorem code_ex {mt : Nat → Nat → Prop} {Lf lf : Nat → Nat} {C : Nat → Int32} {k w : Nat} (h : (C w = -1 ∧ lf w = 1) ∨ ∃ j, j < k ∧ C w = nI j ∧ lf w = Lf j ∧ mt j w ∧ ¬ C w = -1 ∧ lf w ≠ 1) (h1 : lf w ≠ 1) : ∃ j, j < k ∧ (Lf j = lf w ∧ mt j w) := by
  rcases h with ⟨-, h⟩ | ⟨j, a, -, b, c, -⟩
  · exact absurd h h1
  · exact ⟨j, a, b.symm, c⟩
theorem code_eq {t : Nat → Nat} {n : Nat} {T : Nat → Int32} {Lf lf : Nat → Nat} {C : Nat → Int32} {k w i : Nat} (h : (C w = -1 ∧ lf w = 1) ∨ ∃ j, j < k ∧ C w = nI j ∧ lf w = Lf j ∧ mtC t n T Lf (-1) j w ∧ ¬ C w = -1 ∧ lf w ≠ 1) (h1 : lf w ≠ 1)
    (hnd : ∀ c c', c < k → c' < k → Lf c = Lf c' → (∀ p, p < Lf c → T (c * 4 + p) = T (c' * 4 + p)) → c = c') (hi : i < k) (hl : Lf i = lf w) (hm : w + Lf i ≤ n ∧ ∀ p, p < Lf i → nI (t (w + p)) = T (i * 4 + p)) : nI i = C w := by
  rcases h with ⟨-, h⟩ | ⟨j, a, b, c, d, -⟩
  · exact absurd h h1
  · rw [b, hnd i j hi a (by omega) (fun p hp => by rw [← hm.2 p hp]; exact d.2.2 p (by omega))]
theorem pos_end {t : Nat → Nat} {n : Nat} {T : Nat → Int32} {Lf : Nat → Nat} {k : Nat} {f lf : Nat → Nat} {C : Nat → Int32} {ps : Nat → Nat} {cnt g : Nat} (h : PartC t n T Lf k (-1) 0 0 f lf C ps cnt) (hg : g ≤ cnt) (hn : n ≤ posN lf g) : g = cnt := by
  rcases Nat.lt_or_ge g cnt with z | z
  · have := (h.2.1 g z).2
    omega
  · omega
theorem send_step {q sg i r v3 v2 : Nat} {Z : Nat → Nat} (hr3 : r ≤ 3) (hse : seN q sg i = sg + Z 0) (hr : rpt q (seN q sg i) = r) (hall : ∀ j, j < r → gB q (seN q sg i + 1 + j)) (hZ : Z 0 = i + akN q sg i ∧ Z 1 = akN q sg i ∧ Z 2 = gnN q sg i ∧ Z 3 = gfN q sg i)
    (hend : ¬ gB q (sg + Z 0 + (r + 1)) ∨ r = 3) (h64 : (gB q (sg + Z 0 + 1) ∧ v3 = Z 3 + 1) ∨ (¬ gB q (sg + Z 0 + 1) ∧ v3 = Z 3 + 0)) (h108 : (gB q (sg + (Z 0 + (r + 1))) ∧ v2 = Z 2 + 1) ∨ (¬ gB q (sg + (Z 0 + (r + 1))) ∧ v2 = Z 2 + 0)) :
    updN (updN (updN (updN Z 3 v3) 0 (Z 0 + (r + 1))) 1 (Z 1 + (r + 1 - 1))) 2 v2 0 = i + 1 + akN q sg (i + 1) ∧ updN (updN (updN (updN Z 3 v3) 0 (Z 0 + (r + 1))) 1 (Z 1 + (r + 1 - 1))) 2 v2 1 = akN q sg (i + 1) ∧
      updN (updN (updN (updN Z 3 v3) 0 (Z 0 + (r + 1))) 1 (Z 1 + (r + 1 - 1))) 2 v2 2 = gnN q sg (i + 1) ∧ updN (updN (updN (updN Z 3 v3) 0 (Z 0 + (r + 1))) 1 (Z 1 + (r + 1 - 1))) 2 v2 3 = gfN q sg (i + 1) := by
  obtain ⟨z0, z1, z2, z3⟩ := hZ
  have e1 : seN q sg i + 1 = sg + Z 0 + 1 := by omega
  have e2 : seN q sg i + 1 + r = sg + (Z 0 + (r + 1)) := by omega
  have e3 : sg + Z 0 + (r + 1) = sg + (Z 0 + (r + 1)) := by omega
  rw [e3] at hend
  show Z 0 + (r + 1) = i + 1 + (akN q sg i + rpt q (seN q sg i)) ∧ Z 1 + (r + 1 - 1) = akN q sg i + rpt q (seN q sg i) ∧ v2 = gnN q sg i + lst q (seN q sg i) ∧ v3 = gfN q sg i + gst q (seN q sg i)
  refine ⟨by omega, by omega, ?_, ?_⟩
  · rcases h108 with ⟨a, b⟩ | ⟨a, b⟩
    · have h3 : r = 3 := by
        rcases hend with z | z
        · exact absurd a z
        · exact z
      have := lst_1 (q := q) (s := seN q sg i) h3 hall (by rw [e2]; exact a)
      omega
    · have := lst_0 (q := q) (s := seN q sg i) hr3 (by rw [e2]; exact a)
      omega
  · rcases h64 with ⟨a, b⟩ | ⟨a, b⟩
    · have : gst q (seN q sg i) = 1 := by unfold gst; rw [e1]; exact zif_t a
      omega
    · have : gst q (seN q sg i) = 0 := by unfold gst; rw [e1]; exact zif_f a
      omega
