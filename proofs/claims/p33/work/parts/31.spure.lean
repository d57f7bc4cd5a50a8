/-! the law's own parting and what it asks of one: what is best from a word on; the class's parting is that -/
def av (mt : Nat → Nat → Prop) (Lf : Nat → Nat) (k w g : Nat) : Prop := g = 1 ∨ ∃ c, c < k ∧ Lf c = g ∧ mt c w
def PO (mt : Nat → Nat → Prop) (Lf : Nat → Nat) (k : Nat) (f lf : Nat → Nat) (C : Nat → Int32) (w : Nat) : Prop :=
  av mt Lf k w (lf w) ∧ f w = f (w + lf w) + 1 ∧ (∀ g, av mt Lf k w g → f w < f (w + g) + 1 ∨ (f w = f (w + g) + 1 ∧ g ≤ lf w)) ∧ ((lf w = 1 ∧ C w = -1) ∨ ∃ j, j < k ∧ C w = nI j ∧ lf w = Lf j ∧ mt j w)
theorem av_s {mt : Nat → Nat → Prop} {Lf : Nat → Nat} {i w g : Nat} (h : av mt Lf i w g) : av mt Lf (i + 1) w g := by
  rcases h with h | ⟨c, h1, h2⟩
  · exact Or.inl h
  · exact Or.inr ⟨c, by omega, h2⟩
theorem av_n {mt : Nat → Nat → Prop} {Lf : Nat → Nat} {i w g : Nat} (h : ¬ av mt Lf i w g) (h2 : ¬ (Lf i = g ∧ mt i w)) : ¬ av mt Lf (i + 1) w g := by
  rintro (q | ⟨c, h3, h4, h5⟩)
  · exact h (Or.inl q)
  · by_cases e : c = i
    · subst e; exact h2 ⟨h4, h5⟩
    · exact h (Or.inr ⟨c, by omega, h4, h5⟩)
theorem cdo_po {mt : Nat → Nat → Prop} {Lf F : Nat → Nat} {w : Nat} : ∀ c, av mt Lf c w (cdo mt Lf F w c).2.1 ∧ (cdo mt Lf F w c).1 = F (w + (cdo mt Lf F w c).2.1) + 1 ∧ (∀ g, av mt Lf c w g → (cdo mt Lf F w c).1 < F (w + g) + 1 ∨ ((cdo mt Lf F w c).1 = F (w + g) + 1 ∧ g ≤ (cdo mt Lf F w c).2.1)) ∧
    (((cdo mt Lf F w c).2.1 = 1 ∧ (cdo mt Lf F w c).2.2 = -1) ∨ ∃ j, j < c ∧ (cdo mt Lf F w c).2.2 = nI j ∧ (cdo mt Lf F w c).2.1 = Lf j ∧ mt j w) := by
  intro c
  induction c with
  | zero =>
    refine ⟨Or.inl rfl, rfl, fun g hg => ?_, Or.inl ⟨rfl, rfl⟩⟩
    rcases hg with rfl | ⟨c, hc, -⟩
    · exact Or.inr ⟨rfl, Nat.le_refl _⟩
    · exact absurd hc (Nat.not_lt_zero _)
  | succ c ih =>
    generalize hx : cdo mt Lf F w c = x at ih
    obtain ⟨i1, i2, i3, i4⟩ := ih
    have hd : cdo mt Lf F w (c + 1) = zif (mt c w) (stp F w (Lf c) (nI c) x) x := by rw [← hx]; rfl
    rw [hd]
    by_cases q : mt c w
    · rw [zif_t q]
      unfold stp
      by_cases z : F (w + Lf c) + 1 < x.1 ∨ (F (w + Lf c) + 1 = x.1 ∧ x.2.1 < Lf c)
      · rw [if_pos z]
        refine ⟨Or.inr ⟨c, by omega, rfl, q⟩, rfl, fun g hg => ?_, Or.inr ⟨c, by omega, rfl, rfl, q⟩⟩
        show F (w + Lf c) + 1 < F (w + g) + 1 ∨ (F (w + Lf c) + 1 = F (w + g) + 1 ∧ g ≤ Lf c)
        have hg' : av mt Lf c w g ∨ Lf c = g := by
          rcases hg with h | ⟨j, h1, h2, h3⟩
          · exact Or.inl (Or.inl h)
          · by_cases e : j = c
            · subst e; exact Or.inr h2
            · exact Or.inl (Or.inr ⟨j, by omega, h2, h3⟩)
        rcases hg' with h | rfl
        · have := i3 g h
          omega
        · exact Or.inr ⟨rfl, Nat.le_refl _⟩
      · rw [if_neg z]
        refine ⟨av_s i1, i2, fun g hg => ?_, ?_⟩
        · have hg' : av mt Lf c w g ∨ Lf c = g := by
            rcases hg with h | ⟨j, h1, h2, h3⟩
            · exact Or.inl (Or.inl h)
            · by_cases e : j = c
              · subst e; exact Or.inr h2
              · exact Or.inl (Or.inr ⟨j, by omega, h2, h3⟩)
          rcases hg' with h | rfl
          · exact i3 g h
          · omega
        · rcases i4 with h | ⟨j, h1, h2⟩
          · exact Or.inl h
          · exact Or.inr ⟨j, by omega, h2⟩
    · rw [zif_f q]
      refine ⟨av_s i1, i2, fun g hg => ?_, ?_⟩
      · refine i3 g ?_
        rcases hg with h | ⟨j, h1, h2, h3⟩
        · exact Or.inl h
        · by_cases e : j = c
          · subst e; exact absurd h3 q
          · exact Or.inr ⟨j, by omega, h2, h3⟩
      · rcases i4 with h | ⟨j, h1, h2⟩
        · exact Or.inl h
        · exact Or.inr ⟨j, by omega, h2⟩
theorem po_of {t : Nat → Nat} {n : Nat} {T : Nat → Int32} {Lf : Nat → Nat} {k : Nat} {f lf : Nat → Nat} {C : Nat → Int32} {ps : Nat → Nat} {cnt : Nat} (h : PartC t n T Lf k (-1) 0 0 f lf C ps cnt) : f n = 0 ∧ ∀ w, w < n → PO (mtC t n T Lf (-1)) Lf k f lf C w := by
  refine ⟨h.1.1, fun w hw => ?_⟩
  have hr := h.1.2.1 w (Nat.zero_le _) hw
  have hn : ¬ mnC t n 0 0 w := fun q => absurd q.1 (Nat.lt_irrefl _)
  unfold res at hr
  rw [zif_f hn] at hr
  have hp := cdo_po (mt := mtC t n T Lf (-1)) (Lf := Lf) (F := f) (w := w) k
  rw [← hr] at hp
  exact hp
/-- what is there fits into the message, and is of four words at the most -/
theorem av_b {t : Nat → Nat} {n : Nat} {T : Nat → Int32} {Lf : Nat → Nat} {k w g : Nat} (hL : ∀ c, c < k → 2 ≤ Lf c ∧ Lf c ≤ 4) (hw : w < n) (h : av (mtC t n T Lf (-1)) Lf k w g) : 1 ≤ g ∧ g ≤ 4 ∧ w + g ≤ n := by
  rcases h with rfl | ⟨c, hc, rfl, hm⟩
  · omega
  · have := hL c hc
    have := hm.2.1
    omega
/-- the pair (M, l) is the best of all that is there from w on with a first group of fewer than `far` words -/
def PB (mt : Nat → Nat → Prop) (Lf : Nat → Nat) (k : Nat) (f : Nat → Nat) (w far M l : Nat) : Prop :=
  (far = 1 ∧ M = 99) ∨ (1 ≤ l ∧ l < far ∧ av mt Lf k w l ∧ M = f (w + l) + 1 ∧ ∀ g, 1 ≤ g → g < far → av mt Lf k w g → M < f (w + g) + 1 ∨ (M = f (w + g) + 1 ∧ g ≤ l))
theorem pb_skip {mt : Nat → Nat → Prop} {Lf : Nat → Nat} {k : Nat} {f : Nat → Nat} {w far M l : Nat} (h : PB mt Lf k f w far M l) (hn : ¬ av mt Lf k w far ∨ M < f (w + far) + 1) (hf : f (w + far) ≤ 24) : PB mt Lf k f w (far + 1) M l := by
  rcases h with ⟨rfl, rfl⟩ | ⟨h1, h2, h3, h4, h5⟩
  · rcases hn with q | q
    · exact absurd (Or.inl rfl) q
    · omega
  · refine Or.inr ⟨h1, by omega, h3, h4, fun g a b c => ?_⟩
    by_cases e : g = far
    · subst e
      rcases hn with q | q
      · exact absurd c q
      · exact Or.inl q
    · exact h5 g a (by omega) c
theorem pb_take {mt : Nat → Nat → Prop} {Lf : Nat → Nat} {k : Nat} {f : Nat → Nat} {w far M l M2 : Nat} (h : PB mt Lf k f w far M l) (h1 : 1 ≤ far) (ha : av mt Lf k w far) (hM : M2 = f (w + far) + 1) (hle : M2 ≤ M) : PB mt Lf k f w (far + 1) M2 far := by
  refine Or.inr ⟨h1, by omega, ha, hM, fun g a b c => ?_⟩
  by_cases e : g = far
  · subst e; exact Or.inr ⟨hM, Nat.le_refl _⟩
  · rcases h with ⟨rfl, -⟩ | ⟨-, -, -, -, h5⟩
    · omega
    · have := h5 g a (by omega) c
      omega
theorem pb_b {mt : Nat → Nat → Prop} {Lf : Nat → Nat} {k : Nat} {f : Nat → Nat} {w far M l : Nat} (h : PB mt Lf k f w far M l) (hf : ∀ g, 1 ≤ g → g < far → f (w + g) ≤ 24) : M ≤ 99 := by
  rcases h with ⟨-, rfl⟩ | ⟨h1, h2, h3, h4, h5⟩
  · omega
  · have := hf l h1 h2
    omega
theorem pb_end {mt : Nat → Nat → Prop} {Lf : Nat → Nat} {k n : Nat} {f lf : Nat → Nat} {C : Nat → Int32} {w far M l : Nat} (hpo : PO mt Lf k f lf C w) (hb : ∀ g, av mt Lf k w g → 1 ≤ g ∧ g ≤ 4 ∧ w + g ≤ n) (hw : w < n) (h : PB mt Lf k f w far M l) (hfar : 4 < far ∨ n < w + far) : M = f w ∧ l = lf w := by
  rcases h with ⟨rfl, -⟩ | ⟨h1, h2, h3, h4, h5⟩
  · omega
  · obtain ⟨p1, p2, p3, -⟩ := hpo
    have b1 := hb _ p1
    have q1 := h5 (lf w) b1.1 (by omega) p1
    have q2 := p3 l h3
    omega
def lfz (lf : Nat → Nat) (n : Nat) : Nat → Nat := fun j => if j < n then lf j else 0
theorem lfz_in {lf : Nat → Nat} {n j : Nat} (h : j < n) : lfz lf n j = lf j := if_pos h
theorem lfz_out {lf : Nat → Nat} {n j : Nat} (h : ¬ j < n) : lfz lf n j = 0 := if_neg h
def zq2 (a b : Nat) : Nat → Option Nat := fun i => if i = 0 then some a else some b
def zs4 (a b c d : Nat) : Nat → Nat := fun i => if i = 0 then a else if i = 1 then b else if i = 2 then c else d
def dcR (R : Nat → Nat) (j : Nat) : Nat → Nat := fun a => if a < j then R a else R (a + 1)
theorem zup_s {α : Type} (f : Nat → α) (k : Nat) (v : α) : va_up f k v k = v := by simp [va_up]
theorem zup_n {α : Type} (f : Nat → α) {k j : Nat} (v : α) (h : j ≠ k) : va_up f k v j = f j := by simp [va_up, h]
theorem fr_set {D : va_G} {cl : List vw_C} {ws : va_W} {H : Heap} (h : va_P D cl ws H) (q : Nat) {a : Nat} {e0 e : va_E} (ha : ws[q]? = some (a, e0)) (he : va_at D cl (a, e0) H → va_at D cl (a, e) H) : va_P D cl (ws.set q (a, e)) H := by
  intro k x hk
  by_cases hkq : k = q
  · subst hkq
    rw [List.getElem?_set_self (List.getElem?_eq_some_iff.mp ha).1] at hk
    cases hk
    exact he (h k _ ha)
  · rw [List.getElem?_set_ne (Ne.symm hkq)] at hk
    exact h k x hk
theorem fr_setI {D : va_G} {cl : List vw_C} {ws : va_W} {H : Heap} (h : va_P D cl ws H) (q : Nat) {a : Nat} {cA : ClassId} {n : Nat} {f : Nat → Int32} (g : Nat → Int32) (ha : ws[q]? = some (a, .inl (cA, n, .inl f))) (hg : ∀ j, j < n → f j = g j) : va_P D cl (ws.set q (a, .inl (cA, n, .inl g))) H :=
  fr_set h q ha (fun h1 => by have h2 : H[a]? = some (vp_cell cA (n, .inl f)) := h1; show H[a]? = some (vp_cell cA (n, .inl g)); rw [h2, cell_i hg])
theorem fr_setQ {D : va_G} {cl : List vw_C} {ws : va_W} {H : Heap} (h : va_P D cl ws H) (q : Nat) {a : Nat} {cA : ClassId} {n : Nat} {f : Nat → Option Nat} (g : Nat → Option Nat) (ha : ws[q]? = some (a, .inl (cA, n, .inr (.inr (.inr (.inr f)))))) (hg : ∀ j, j < n → f j = g j) : va_P D cl (ws.set q (a, .inl (cA, n, .inr (.inr (.inr (.inr g)))))) H :=
  fr_set h q ha (fun h1 => by have h2 : H[a]? = some (vp_cell cA (n, .inr (.inr (.inr (.inr f))))) := h1; show H[a]? = some (vp_cell cA (n, .inr (.inr (.inr (.inr g))))); rw [h2, cell_q hg])
theorem fr_drop {D : va_G} {cl : List vw_C} {ws w' : va_W} {H : Heap} (n : Nat) (h : va_P D cl ws H) (hd : ws.drop n = w') : va_P D cl w' H := by
  subst hd
  intro k q hk
  rw [List.getElem?_drop] at hk
  exact h (n + k) q hk
theorem rw_none (D : va_G) (cI : ClassId) (R Lf : Nat → Nat) (T : Nat → Int32) (H : Heap) : va_P D vwCl (rwW cI R Lf T 0) H := fun k q h => by simp [rwW] at h
/-! how many groups -/
theorem pos_f {t : Nat → Nat} {n : Nat} {T : Nat → Int32} {Lf : Nat → Nat} {k : Nat} {f lf : Nat → Nat} {C : Nat → Int32} {ps : Nat → Nat} {cnt : Nat} (h : PartC t n T Lf k (-1) 0 0 f lf C ps cnt) : ∀ g, g ≤ cnt → f 0 = f (posN lf g) + g := by
  intro g
  induction g with
  | zero => intro _; rfl
  | succ g ih =>
    intro hg
    have h1 := ih (by omega)
    have h2 := ((po_of h).2 (posN lf g) (h.2.1 g (by omega)).2).2.1
    show f 0 = f (posN lf g + lf (posN lf g)) + (g + 1)
    omega
theorem cnt_f {t : Nat → Nat} {n : Nat} {T : Nat → Int32} {Lf : Nat → Nat} {k : Nat} {f lf : Nat → Nat} {C : Nat → Int32} {ps : Nat → Nat} {cnt : Nat} (h : PartC t n T Lf k (-1) 0 0 f lf C ps cnt) : f 0 = cnt := by
  have h1 := pos_f h cnt (Nat.le_refl _)
  rw [h.2.2.1, (po_of h).1] at h1
  omega
theorem pos_4 {t : Nat → Nat} {n : Nat} {T : Nat → Int32} {Lf : Nat → Nat} {k : Nat} {f lf : Nat → Nat} {C : Nat → Int32} {ps : Nat → Nat} {cnt : Nat} (h : PartC t n T Lf k (-1) 0 0 f lf C ps cnt) : ∀ g, g ≤ cnt → posN lf g ≤ 4 * g := by
  intro g
  induction g with
  | zero => intro _; exact Nat.le_refl _
  | succ g ih =>
    intro hg
    have h1 := ih (by omega)
    have h2 := h.1.2.2.2 (posN lf g) (Nat.zero_le _) (h.2.1 g (by omega)).2
    show posN lf g + lf (posN lf g) ≤ 4 * (g + 1)
    omega
theorem cnt_4 {t : Nat → Nat} {n : Nat} {T : Nat → Int32} {Lf : Nat → Nat} {k : Nat} {f lf : Nat → Nat} {C : Nat → Int32} {ps : Nat → Nat} {cnt : Nat} (h : PartC t n T Lf k (-1) 0 0 f lf C ps cnt) : n ≤ 4 * cnt := by
  have := pos_4 h cnt (Nat.le_refl _)
  rw [h.2.2.1] at this
  exact this
/-- one group: a word alone, or a code with its words -/
theorem grp {t : Nat → Nat} {n : Nat} {T : Nat → Int32} {Lf : Nat → Nat} {k : Nat} {f lf : Nat → Nat} {C : Nat → Int32} {ps : Nat → Nat} {cnt : Nat} (h : PartC t n T Lf k (-1) 0 0 f lf C ps cnt) (hk : k ≤ 8) (hL : ∀ c, c < k → 2 ≤ Lf c ∧ Lf c ≤ 4) {w : Nat} (hw : w < n) : (C w = -1 ∧ lf w = 1) ∨ ∃ j, j < k ∧ C w = nI j ∧ lf w = Lf j ∧ mtC t n T Lf (-1) j w ∧ ¬ C w = -1 ∧ lf w ≠ 1 := by
  rcases ((po_of h).2 w hw).2.2.2 with ⟨a, b⟩ | ⟨j, h1, h2, h3, h4⟩
  · exact Or.inl ⟨b, a⟩
  · have := hL j h1
    exact Or.inr ⟨j, h1, h2, h3, h4, by rw [h2]; exact nI_m1 (by omega), by omega⟩
theorem ctW_1 {t : Nat → Nat} {n : Nat} {T : Nat → Int32} {Lf : Nat → Nat} {k : Nat} {f lf : Nat → Nat} {C : Nat → Int32} {ps : Nat → Nat} {cnt : Nat} (h : PartC t n T Lf k (-1) 0 0 f lf C ps cnt) (hk : k ≤ 8) (hL : ∀ c, c < k → 2 ≤ Lf c ∧ Lf c ≤ 4) {g : Nat} (hg : g < cnt) (h1 : lf (posN lf g) ≠ 1) : ctW C ps t g = 1 := by
  have hp := h.2.1 g hg
  unfold ctW
  rw [hp.1]
  rcases grp h hk hL hp.2 with ⟨-, q⟩ | ⟨j, -, -, -, -, q, -⟩
  · exact absurd q h1
  · exact zif_f q
theorem ctW_2 {t : Nat → Nat} {n : Nat} {T : Nat → Int32} {Lf : Nat → Nat} {k : Nat} {f lf : Nat → Nat} {C : Nat → Int32} {ps : Nat → Nat} {cnt : Nat} (h : PartC t n T Lf k (-1) 0 0 f lf C ps cnt) (hk : k ≤ 8) (hL : ∀ c, c < k → 2 ≤ Lf c ∧ Lf c ≤ 4) {g : Nat} (hg : g < cnt) (h1 : lf (posN lf g) = 1) : ctW C ps t g = wc (t (posN lf g)) := by
  have hp := h.2.1 g hg
  unfold ctW
  rw [hp.1]
  rcases grp h hk hL hp.2 with ⟨q, -⟩ | ⟨j, -, -, -, -, -, q⟩
  · exact zif_t q
  · exact absurd h1 q
theorem sN_run {u : Nat → Nat} (h1 : ∀ j, 1 ≤ u j) (w : Nat) : ∀ d, sN u w + d ≤ sN u (w + d) := by
  intro d
  induction d with
  | zero => exact Nat.le_refl _
  | succ d ih =>
    show sN u w + (d + 1) ≤ sN u (w + d) + u (w + d)
    have := h1 (w + d)
    omega
theorem wc_1 (x : Nat) : 1 ≤ wc x := by unfold wc; split <;> decide
theorem ct_le {t : Nat → Nat} {n : Nat} {T : Nat → Int32} {Lf : Nat → Nat} {k : Nat} {f lf : Nat → Nat} {C : Nat → Int32} {ps : Nat → Nat} {cnt : Nat} (h : PartC t n T Lf k (-1) 0 0 f lf C ps cnt) (hk : k ≤ 8) (hL : ∀ c, c < k → 2 ≤ Lf c ∧ Lf c ≤ 4) : ∀ g, g ≤ cnt → sN (ctW C ps t) g ≤ sN (fun j => wc (t j)) (posN lf g) := by
  intro g
  induction g with
  | zero => intro _; exact Nat.le_refl _
  | succ g ih =>
    intro hg
    have h0 := ih (by omega)
    have hb := h.1.2.2.2 (posN lf g) (Nat.zero_le _) (h.2.1 g (by omega)).2
    show sN (ctW C ps t) g + ctW C ps t g ≤ sN (fun j => wc (t j)) (posN lf g + lf (posN lf g))
    by_cases e : lf (posN lf g) = 1
    · rw [ctW_2 h hk hL (by omega) e, e]
      show _ ≤ sN (fun j => wc (t j)) (posN lf g) + wc (t (posN lf g))
      omega
    · rw [ctW_1 h hk hL (by omega) e]
      have := sN_run (u := fun j => wc (t j)) (fun j => wc_1 _) (posN lf g) (lf (posN lf g))
      omega
theorem ct_all {t : Nat → Nat} {n : Nat} {T : Nat → Int32} {Lf : Nat → Nat} {k : Nat} {f lf : Nat → Nat} {C : Nat → Int32} {ps : Nat → Nat} {cnt : Nat} (h : PartC t n T Lf k (-1) 0 0 f lf C ps cnt) (hk : k ≤ 8) (hL : ∀ c, c < k → 2 ≤ Lf c ∧ Lf c ≤ 4) : sN (ctW C ps t) cnt ≤ sN (fun j => wc (t j)) n := by
  have := ct_le h hk hL cnt (Nat.le_refl _)
  rw [h.2.2.1] at this
  exact this
/-! one word more -/
theorem mt_up {t : Nat → Nat} {n x : Nat} {T : Nat → Int32} {Lf : Nat → Nat} {c w : Nat} (h : mtC t n T Lf (-1) c w) : mtC (updN t n x) (n + 1) T Lf (-1) c w := by
  obtain ⟨h1, h2, h3⟩ := h
  refine ⟨h1, by omega, fun p hp => ?_⟩
  rw [updN_n _ (by omega)]
  exact h3 p hp
theorem mt_dn {t : Nat → Nat} {n x : Nat} {T : Nat → Int32} {Lf : Nat → Nat} {c w : Nat} (h : mtC (updN t n x) (n + 1) T Lf (-1) c w) (hn : w + Lf c ≤ n) : mtC t n T Lf (-1) c w := by
  obtain ⟨h1, h2, h3⟩ := h
  refine ⟨h1, hn, fun p hp => ?_⟩
  have := h3 p hp
  rw [updN_n _ (by omega)] at this
  exact this
theorem one_up {t : Nat → Nat} {n x : Nat} {T : Nat → Int32} {Lf : Nat → Nat} {k : Nat} {f lf f2 lf2 : Nat → Nat} {C C2 : Nat → Int32} {ps ps2 : Nat → Nat} {cnt cnt2 : Nat} (h : PartC t n T Lf k (-1) 0 0 f lf C ps cnt) (h2 : PartC (updN t n x) (n + 1) T Lf k (-1) 0 0 f2 lf2 C2 ps2 cnt2) (hL : ∀ c, c < k → 2 ≤ Lf c ∧ Lf c ≤ 4) : ∀ d w, w + d = n → f2 w ≤ f w + 1 ∧ f w ≤ f2 w + 2 := by
  intro d
  induction d using Nat.strongRecOn with
  | ind d ih =>
    intro w hw
    by_cases e : w = n
    · subst e
      have a := h2.1.2.2.1 w (Nat.zero_le _) (by omega)
      have b := (po_of h).1
      omega
    · have hwn : w < n := by omega
      have p1 := (po_of h).2 w hwn
      have p2 := (po_of h2).2 w (by omega)
      have b1 := av_b hL hwn p1.1
      have b2 := av_b hL (by omega) p2.1
      refine ⟨?_, ?_⟩
      · have ha : av (mtC (updN t n x) (n + 1) T Lf (-1)) Lf k w (lf w) := by
          rcases p1.1 with q | ⟨c, q1, q2, q3⟩
          · exact Or.inl q
          · exact Or.inr ⟨c, q1, q2, mt_up q3⟩
        have q := p2.2.2.1 _ ha
        have r := (ih (n - (w + lf w)) (by omega) (w + lf w) (by omega)).1
        have s := p1.2.1
        omega
      · by_cases z : w + lf2 w ≤ n
        · have ha : av (mtC t n T Lf (-1)) Lf k w (lf2 w) := by
            rcases p2.1 with q | ⟨c, q1, q2, q3⟩
            · exact Or.inl q
            · exact Or.inr ⟨c, q1, q2, mt_dn q3 (by omega)⟩
          have q := p1.2.2.1 _ ha
          have r := (ih (n - (w + lf2 w)) (by omega) (w + lf2 w) (by omega)).2
          have s := p2.2.1
          omega
        · have a := h.1.2.2.1 w (Nat.zero_le _) (by omega)
          have s := p2.2.1
          omega
theorem one_more {t : Nat → Nat} {n x : Nat} {T : Nat → Int32} {Lf : Nat → Nat} {k : Nat} {f lf f2 lf2 : Nat → Nat} {C C2 : Nat → Int32} {ps ps2 : Nat → Nat} {cnt cnt2 : Nat} (h : PartC t n T Lf k (-1) 0 0 f lf C ps cnt) (h2 : PartC (updN t n x) (n + 1) T Lf k (-1) 0 0 f2 lf2 C2 ps2 cnt2) (hL : ∀ c, c < k → 2 ≤ Lf c ∧ Lf c ≤ 4) : cnt2 ≤ cnt + 1 ∧ cnt ≤ cnt2 + 2 := by
  have := one_up h h2 hL n 0 (by omega)
  rw [cnt_f h, cnt_f h2] at this
  exact this
/-- two partings of the same words make as many groups -/
theorem same_f {t t2 : Nat → Nat} {n : Nat} {T : Nat → Int32} {Lf : Nat → Nat} {k : Nat} {f lf f2 lf2 : Nat → Nat} {C C2 : Nat → Int32} {ps ps2 : Nat → Nat} {cnt cnt2 : Nat} (h : PartC t n T Lf k (-1) 0 0 f lf C ps cnt) (h2 : PartC t2 n T Lf k (-1) 0 0 f2 lf2 C2 ps2 cnt2) (he : ∀ j, j < n → t2 j = t j) (hL : ∀ c, c < k → 2 ≤ Lf c ∧ Lf c ≤ 4) : ∀ d w, w + d = n → f2 w = f w := by
  have hm : ∀ c w, mtC t n T Lf (-1) c w ↔ mtC t2 n T Lf (-1) c w := by
    intro c w
    refine ⟨fun ⟨a, b, q⟩ => ⟨a, b, fun p hp => ?_⟩, fun ⟨a, b, q⟩ => ⟨a, b, fun p hp => ?_⟩⟩
    · rw [he _ (by omega)]; exact q p hp
    · rw [← he _ (by omega)]; exact q p hp
  have ha : ∀ w g, av (mtC t n T Lf (-1)) Lf k w g ↔ av (mtC t2 n T Lf (-1)) Lf k w g := by
    intro w g
    unfold av
    simp only [hm]
  intro d
  induction d using Nat.strongRecOn with
  | ind d ih =>
    intro w hw
    by_cases e : w = n
    · subst e
      rw [(po_of h).1, (po_of h2).1]
    · have p1 := (po_of h).2 w (by omega)
      have p2 := (po_of h2).2 w (by omega)
      have b1 := av_b hL (by omega) p1.1
      have b2 := av_b hL (by omega) p2.1
      have q1 := p1.2.2.1 _ ((ha _ _).mpr p2.1)
      have q2 := p2.2.2.1 _ ((ha _ _).mp p1.1)
      have r1 := ih (n - (w + lf w)) (by omega) (w + lf w) (by omega)
      have r2 := ih (n - (w + lf2 w)) (by omega) (w + lf2 w) (by omega)
      have s1 := p1.2.1
      have s2 := p2.2.1
      omega
theorem same_cnt {t t2 : Nat → Nat} {n : Nat} {T : Nat → Int32} {Lf : Nat → Nat} {k : Nat} {f lf f2 lf2 : Nat → Nat} {C C2 : Nat → Int32} {ps ps2 : Nat → Nat} {cnt cnt2 : Nat} (h : PartC t n T Lf k (-1) 0 0 f lf C ps cnt) (h2 : PartC t2 n T Lf k (-1) 0 0 f2 lf2 C2 ps2 cnt2) (he : ∀ j, j < n → t2 j = t j) (hL : ∀ c, c < k → 2 ≤ Lf c ∧ Lf c ≤ 4) : cnt2 = cnt := by
  have := same_f h h2 he hL n 0 (by omega)
  rw [cnt_f h, cnt_f h2] at this
  exact this
/-! the line -/
theorem gst_rpt (q s : Nat) : gst q s ≤ rpt q s ∧ rpt q s ≤ 3 * gst q s ∧ 3 * lst q s ≤ rpt q s := by
  unfold gst rpt lst
  by_cases h1 : gB q (s + 1)
  · by_cases h2 : gB q (s + 2)
    · by_cases h3 : gB q (s + 3)
      · rw [zif_t h1, zif_t h1, zif_t h2, zif_t h3]
        refine ⟨by decide, by decide, ?_⟩
        unfold zif; split <;> decide
      · rw [zif_t h1, zif_t h1, zif_t h2, zif_f h3, zif_f (fun z => h3 z.2.2.1)]
        exact ⟨by decide, by decide, by decide⟩
    · rw [zif_t h1, zif_t h1, zif_f h2, zif_f (fun z => h2 z.2.1)]
      exact ⟨by decide, by decide, by decide⟩
  · rw [zif_f h1, zif_f h1, zif_f (fun z => h1 z.1)]
    exact ⟨by decide, by decide, by decide⟩
theorem line_all (q s : Nat) : ∀ g, gfN q s g ≤ g ∧ gfN q s g ≤ akN q s g ∧ akN q s g ≤ 3 * gfN q s g ∧ 3 * gnN q s g ≤ akN q s g ∧ seN q s g = s + (g + akN q s g) := by
  intro g
  induction g with
  | zero => exact ⟨Nat.le_refl _, Nat.le_refl _, Nat.le_refl _, Nat.le_refl _, rfl⟩
  | succ g ih =>
    have h1 := gst_rpt q (seN q s g)
    have h2 := gst_le q (seN q s g)
    show gfN q s g + gst q (seN q s g) ≤ g + 1 ∧ gfN q s g + gst q (seN q s g) ≤ akN q s g + rpt q (seN q s g) ∧ akN q s g + rpt q (seN q s g) ≤ 3 * (gfN q s g + gst q (seN q s g)) ∧ 3 * (gnN q s g + lst q (seN q s g)) ≤ akN q s g + rpt q (seN q s g) ∧ seN q s g + 1 + rpt q (seN q s g) = s + (g + 1 + (akN q s g + rpt q (seN q s g)))
    omega
/-! without codes -/
theorem part_0 (t : Nat → Nat) (n : Nat) (T : Nat → Int32) (Lf : Nat → Nat) : PartC t n T Lf 0 (-1) 0 0 (fun w => n - w) (fun _ => 1) (fun _ => -1) (fun g => g) n := by
  have hpos : ∀ g, posN (fun _ => 1) g = g := by
    intro g
    induction g with
    | zero => rfl
    | succ g ih =>
      show posN (fun _ => 1) g + 1 = g + 1
      rw [ih]
  refine ⟨⟨by show n - n = 0; omega, fun j _ hj => ?_, fun j _ _ => Nat.le_refl _, fun j _ hj => ⟨Nat.le_refl _, hj, by show 1 ≤ 4; decide⟩⟩, fun g hg => ⟨(hpos g).symm, by rw [hpos]; exact hg⟩, hpos n, Nat.le_refl _⟩
  have hn : ¬ mnC t n 0 0 j := fun q => absurd q.1 (Nat.lt_irrefl _)
  unfold res
  rw [zif_f hn]
  show (n - j, 1, -1) = (n - (j + 1) + 1, 1, -1)
  rw [show n - (j + 1) + 1 = n - j by omega]
theorem ct_0 (t : Nat → Nat) (n : Nat) : sN (ctW (fun _ => -1) (fun g => g) t) n = sN (fun j => wc (t j)) n :=
  sN_c n (fun j _ => by unfold ctW; exact zif_t rfl)
