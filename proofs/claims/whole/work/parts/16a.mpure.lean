/-! the reference's parting: ties go to the later code; keys; how it hangs together with the class's -/
def stpM (F : Nat → Nat) (w m : Nat) (code : Int32) (x : Nat × Nat × Int32) : Nat × Nat × Int32 := if x.1 < F (w + m) + 1 ∨ (F (w + m) + 1 = x.1 ∧ m < x.2.1) then x else (F (w + m) + 1, m, code)
noncomputable def cdoM (mt : Nat → Nat → Prop) (Lf F : Nat → Nat) (w : Nat) : Nat → Nat × Nat × Int32
  | 0 => (F (w + 1) + 1, 1, -1)
  | c + 1 => zif (mt c w) (stpM F w (Lf c) (nI c) (cdoM mt Lf F w c)) (cdoM mt Lf F w c)
theorem stpM_b {n w m : Nat} {F : Nat → Nat} {code : Int32} {x : Nat × Nat × Int32} (h : Bd n w F x) (hm : 1 ≤ m ∧ m ≤ 4 ∧ w + m ≤ n) : Bd n w F (stpM F w m code x) := by
  unfold stpM
  by_cases q : x.1 < F (w + m) + 1 ∨ (F (w + m) + 1 = x.1 ∧ m < x.2.1)
  · rw [if_pos q]; exact h
  · rw [if_neg q]
    obtain ⟨h1, h2, h3, h4⟩ := h
    refine ⟨?_, hm.1, hm.2.2, hm.2.1⟩
    show F (w + m) + 1 ≤ F (w + 1) + 1
    omega
/-- what matches is in the message -/
def MBm (mt : Nat → Nat → Prop) (Lf : Nat → Nat) (k n : Nat) : Prop := ∀ j, j < n → ∀ c, c < k → mt c j → 2 ≤ Lf c ∧ Lf c ≤ 4 ∧ j + Lf c ≤ n
theorem cdoM_b {mt : Nat → Nat → Prop} {Lf F : Nat → Nat} {k n w : Nat} (hM : MBm mt Lf k n) (hw : w < n) : ∀ c, c ≤ k → Bd n w F (cdoM mt Lf F w c) := by
  intro c
  induction c with
  | zero => intro _; exact ⟨Nat.le_refl _, Nat.le_refl _, hw, by show 1 ≤ 4; decide⟩
  | succ c ih =>
    intro hc
    unfold cdoM
    by_cases q : mt c w
    · rw [zif_t q]
      have := hM w hw c (by omega) q
      exact stpM_b (ih (by omega)) ⟨by omega, this.2.1, this.2.2⟩
    · rw [zif_f q]; exact ih (by omega)
theorem cdoM_c {mt : Nat → Nat → Prop} {Lf F G : Nat → Nat} {k n w : Nat} (hM : MBm mt Lf k n) (hw : w < n) (h : ∀ j, w < j → F j = G j) : ∀ c, c ≤ k → cdoM mt Lf F w c = cdoM mt Lf G w c := by
  intro c
  induction c with
  | zero => intro _; unfold cdoM; rw [h (w + 1) (by omega)]
  | succ c ih =>
    intro hc
    unfold cdoM
    rw [ih (by omega)]
    by_cases q : mt c w
    · rw [zif_t q, zif_t q]
      have := hM w hw c (by omega) q
      unfold stpM
      rw [h (w + Lf c) (by omega)]
    · rw [zif_f q, zif_f q]
/-- which code it is -/
theorem cdoM_far {mt : Nat → Nat → Prop} {Lf F : Nat → Nat} {w : Nat} : ∀ c, ((cdoM mt Lf F w c).2.2 = -1 ∧ (cdoM mt Lf F w c).2.1 = 1) ∨ ∃ c', c' < c ∧ mt c' w ∧ (cdoM mt Lf F w c).2.2 = nI c' ∧ (cdoM mt Lf F w c).2.1 = Lf c' := by
  intro c
  induction c with
  | zero => exact Or.inl ⟨rfl, rfl⟩
  | succ c ih =>
    unfold cdoM
    have keep : ((cdoM mt Lf F w c).2.2 = -1 ∧ (cdoM mt Lf F w c).2.1 = 1) ∨ ∃ c', c' < c + 1 ∧ mt c' w ∧ (cdoM mt Lf F w c).2.2 = nI c' ∧ (cdoM mt Lf F w c).2.1 = Lf c' := by
      rcases ih with h | ⟨c', h1, h2⟩
      · exact Or.inl h
      · exact Or.inr ⟨c', by omega, h2⟩
    by_cases q : mt c w
    · rw [zif_t q]
      unfold stpM
      split
      · exact keep
      · exact Or.inr ⟨c, by omega, q, rfl, rfl⟩
    · rw [zif_f q]; exact keep
/-- no two codes of one length match at one place: the ties don't arise -/
def Dst (mt : Nat → Nat → Prop) (Lf : Nat → Nat) (k n : Nat) : Prop := ∀ w, w < n → ∀ a b, a < b → b < k → mt a w → mt b w → Lf a ≠ Lf b
theorem cdoM_eq {mt : Nat → Nat → Prop} {Lf F : Nat → Nat} {k n w : Nat} (hM : MBm mt Lf k n) (hd : Dst mt Lf k n) (hw : w < n) : ∀ c, c ≤ k → cdoM mt Lf F w c = cdo mt Lf F w c := by
  intro c
  induction c with
  | zero => intro _; rfl
  | succ c ih =>
    intro hc
    have hi := ih (by omega)
    unfold cdoM cdo
    rw [← hi]
    by_cases q : mt c w
    · rw [zif_t q, zif_t q]
      have hl := hM w hw c (by omega) q
      have hne : (cdoM mt Lf F w c).2.1 ≠ Lf c := by
        rcases cdoM_far (mt := mt) (Lf := Lf) (F := F) (w := w) c with ⟨-, h⟩ | ⟨c', h1, h2, -, h3⟩
        · omega
        · rw [h3]; exact hd w hw c' c h1 (by omega) h2 q
      unfold stpM stp
      by_cases a : (cdoM mt Lf F w c).1 < F (w + Lf c) + 1 ∨ (F (w + Lf c) + 1 = (cdoM mt Lf F w c).1 ∧ Lf c < (cdoM mt Lf F w c).2.1)
      · rw [if_pos a, if_neg (by omega)]
      · rw [if_neg a, if_pos (by omega)]
    · rw [zif_f q, zif_f q]
def fM (C : Nat → Int32) (Lm : Nat → Nat) (w : Nat) : Nat := if C w = -1 then 1 else Lm (C w).toNatClampNeg
def OutM (mt : Nat → Nat → Prop) (Lf : Nat → Nat) (k n : Nat) (F lf : Nat → Nat) (C : Nat → Int32) (w : Nat) : Prop := F n = 0 ∧ (∀ j, w ≤ j → j < n → (F j, lf j, C j) = cdoM mt Lf F j k) ∧ (∀ j, w ≤ j → j ≤ n → F j ≤ n - j) ∧ ∀ j, w ≤ j → j < n → 1 ≤ lf j ∧ j + lf j ≤ n ∧ lf j ≤ 4
theorem om_0 {mt : Nat → Nat → Prop} {Lf : Nat → Nat} {k n : Nat} {F lf : Nat → Nat} {C : Nat → Int32} : OutM mt Lf k n (updN F n 0) lf C n :=
  ⟨updN_s _ _ _, fun j h1 h2 => by omega, fun j h1 h2 => by rw [show j = n by omega, updN_s]; omega, fun j h1 h2 => by omega⟩
theorem om_step {mt : Nat → Nat → Prop} {Lf : Nat → Nat} {k n : Nat} {F lf : Nat → Nat} {C C1 : Nat → Int32} {w b fa : Nat} (hM : MBm mt Lf k n) (hw : w < n) (h : OutM mt Lf k n F lf C (w + 1))
    (ho : ∀ j, j ≠ w → C1 j = C j) (hr : (b, fa, C1 w) = cdoM mt Lf F w k) : OutM mt Lf k n (updN F w b) (updN lf w fa) C1 w := by
  obtain ⟨h1, h2, h3, h4⟩ := h
  have hb : Bd n w F (cdoM mt Lf F w k) := cdoM_b hM hw k (Nat.le_refl k)
  rw [← hr] at hb
  obtain ⟨b1, b2, b3, b4⟩ := hb
  dsimp only at b1 b2 b3 b4
  refine ⟨by rw [updN_n _ (by omega)]; exact h1, fun j hj hn => ?_, fun j hj hn => ?_, fun j hj hn => ?_⟩
  · have hc : cdoM mt Lf (updN F w b) j k = cdoM mt Lf F j k := cdoM_c hM hn (fun i hi => updN_n _ (by omega)) k (Nat.le_refl k)
    rw [hc]
    by_cases e : j = w
    · subst e; rw [updN_s, updN_s]; exact hr
    · rw [updN_n _ e, updN_n _ e, ho j e]
      exact h2 j (by omega) hn
  · by_cases e : j = w
    · subst e
      have := h3 (j + 1) (by omega) (by omega)
      rw [updN_s]; omega
    · rw [updN_n _ e]; exact h3 j (by omega) hn
  · by_cases e : j = w
    · subst e; rw [updN_s]; exact ⟨b2, b3, b4⟩
    · rw [updN_n _ e]; exact h4 j (by omega) hn
theorem om_far {mt : Nat → Nat → Prop} {Lf : Nat → Nat} {k n : Nat} {F lf : Nat → Nat} {C : Nat → Int32} (hk : k ≤ 9) (h : OutM mt Lf k n F lf C 0) {w : Nat} (hw : w < n) : (C w = -1 ∧ lf w = 1) ∨ ∃ c, c < k ∧ mt c w ∧ C w = nI c ∧ lf w = Lf c := by
  have h2 := h.2.1 w (Nat.zero_le _) hw
  have h3 := cdoM_far (mt := mt) (Lf := Lf) (F := F) (w := w) k
  rw [← h2] at h3
  exact h3
theorem om_fM {mt : Nat → Nat → Prop} {Lf : Nat → Nat} {k n : Nat} {F lf : Nat → Nat} {C : Nat → Int32} (hk : k ≤ 9) (h : OutM mt Lf k n F lf C 0) : OutM mt Lf k n F (fM C Lf) C 0 := by
  have key : ∀ w, w < n → fM C Lf w = lf w := by
    intro w hw
    unfold fM
    rcases om_far hk h hw with ⟨a, b⟩ | ⟨c, a, -, b, d⟩
    · rw [if_pos a, b]
    · rw [if_neg (by rw [b]; exact nI_m1 (by omega)), b, nI_clamp (by omega), d]
  exact ⟨h.1, fun j a b => by rw [key j b]; exact h.2.1 j a b, h.2.2.1, fun j a b => by rw [key j b]; exact h.2.2.2 j a b⟩
theorem om_C {mt : Nat → Nat → Prop} {Lf : Nat → Nat} {k n : Nat} {F lf : Nat → Nat} {C : Nat → Int32} (hk : k ≤ 9) (h : OutM mt Lf k n F lf C 0) : ∀ w, w < n → C w = -1 ∨ ∃ c, c < 9 ∧ C w = nI c := by
  intro w hw
  rcases om_far hk h hw with ⟨a, -⟩ | ⟨c, a, -, b, -⟩
  · exact Or.inl a
  · exact Or.inr ⟨c, by omega, b⟩
theorem om_I {mt : Nat → Nat → Prop} {Lf : Nat → Nat} {k n nl : Nat} {mn : Nat → Prop} {F lf : Nat → Nat} {C : Nat → Int32} (hM : MBm mt Lf k n) (hd : Dst mt Lf k n) (hn : ∀ w, w < n → ¬ mn w) (h : OutM mt Lf k n F lf C 0) : OutI mt Lf k mn nl n F lf C 0 :=
  ⟨h.1, fun j a b => by rw [h.2.1 j a b, cdoM_eq hM hd b k (Nat.le_refl k)]; unfold res; rw [zif_f (hn j b)], h.2.2.1, h.2.2.2⟩
/-- how many groups: the first word's number -/
theorem pos_f {lf F : Nat → Nat} {n : Nat} (hF : ∀ j, j < n → F j = F (j + lf j) + 1) : ∀ g, (∀ j, j < g → posN lf j < n) → F 0 = g + F (posN lf g) := by
  intro g
  induction g with
  | zero => intro _; show F 0 = 0 + F 0; omega
  | succ g ih =>
    intro h
    have h1 := ih (fun j hj => h j (by omega))
    have h2 := hF (posN lf g) (h g (by omega))
    show F 0 = g + 1 + F (posN lf g + lf (posN lf g))
    omega
def GI (lf : Nat → Nat) (n g : Nat) : Prop := (∀ j, j < g → posN lf j < n) ∧ posN lf g = n
/-- one group more than from behind it on -/
theorem cdoM_1 {mt : Nat → Nat → Prop} {Lf F : Nat → Nat} {w : Nat} : ∀ c, (cdoM mt Lf F w c).1 = F (w + (cdoM mt Lf F w c).2.1) + 1 := by
  intro c
  induction c with
  | zero => rfl
  | succ c ih =>
    unfold cdoM
    by_cases q : mt c w
    · rw [zif_t q]
      unfold stpM
      split
      · exact ih
      · rfl
    · rw [zif_f q]; exact ih
theorem om_g {mt : Nat → Nat → Prop} {Lf : Nat → Nat} {k n : Nat} {F lf : Nat → Nat} {C : Nat → Int32} (h : OutM mt Lf k n F lf C 0) {g : Nat} (hg : GI lf n g) : F 0 = g := by
  have h1 := pos_f (lf := lf) (F := F) (n := n) (fun j hj => by
    have h2 := h.2.1 j (Nat.zero_le _) hj
    have h3 := cdoM_1 (mt := mt) (Lf := Lf) (F := F) (w := j) k
    rw [← h2] at h3
    exact h3) g hg.1
  rw [hg.2, h.1] at h1
  exact h1
/-- there are so many groups -/
theorem gi_ex {lf : Nat → Nat} {n : Nat} (h : ∀ j, j < n → 1 ≤ lf j ∧ j + lf j ≤ n) : ∃ g, GI lf n g := by
  have key : ∀ m g, n - posN lf g ≤ m → posN lf g ≤ n → (∀ j, j < g → posN lf j < n) → ∃ g, GI lf n g := by
    intro m
    induction m with
    | zero => intro g h1 h2 h3; exact ⟨g, h3, by omega⟩
    | succ m ih =>
      intro g h1 h2 h3
      by_cases e : posN lf g = n
      · exact ⟨g, h3, e⟩
      · have h4 := h (posN lf g) (by omega)
        refine ih (g + 1) ?_ ?_ (lt_s h3 (by omega))
        · show n - (posN lf g + lf (posN lf g)) ≤ m; omega
        · exact h4.2
  exact key n 0 (by omega) (Nat.zero_le _) (fun j hj => absurd hj (Nat.not_lt_zero _))
/-- so many words from one on, as a number -/
def kyN (t : Nat → Nat) (w : Nat) : Nat → Nat
  | 0 => 0
  | i + 1 => 11 * kyN t w i + t (w + i) + 1
def kyA (t : Nat → Nat) (n w m : Nat) : Int32 := if n < w + m then -1 else nI (kyN t w m)
def mtM (t : Nat → Nat) (n : Nat) (K : Nat → Int32) (Lm : Nat → Nat) (bu : Int32) (c w : Nat) : Prop := ¬ nI c = bu ∧ kyA t n w (Lm c) = K c
theorem mbm {t : Nat → Nat} {n : Nat} {K : Nat → Int32} {Lm : Nat → Nat} {bu : Int32} {k : Nat} (hL : ∀ c, c < k → 2 ≤ Lm c ∧ Lm c ≤ 4) (hK : ∀ c, c < k → ¬ K c = -1) : MBm (mtM t n K Lm bu) Lm k n := by
  intro j _ c hc h
  refine ⟨(hL c hc).1, (hL c hc).2, ?_⟩
  have h2 := h.2
  unfold kyA at h2
  by_cases q : n < j + Lm c
  · rw [if_pos q] at h2; exact absurd h2.symm (hK c hc)
  · omega
theorem z_inK {x : Int32} {k : Nat} (hk : k < 2 ^ 31) : (nI 0 ≤ x ∧ x ≤ nI k - nI 1) ↔ ∃ j : Nat, j < k ∧ x = nI j := by
  constructor
  · rintro ⟨h1, h2⟩
    have h0 : ¬ x < 0 := fun z => nI_pos (by decide) (Int32.lt_of_le_of_lt h1 z)
    obtain ⟨j, hj, rfl⟩ := nI_of h0
    rcases Nat.eq_zero_or_pos k with z | z
    · rw [z] at h2
      exact absurd (Int32.le_trans h1 h2) (by decide)
    · rw [pk_sub z] at h2
      have := (nI_leI hj (by omega)).mp h2
      exact ⟨j, by omega, rfl⟩
  · rintro ⟨j, hj, rfl⟩
    rw [pk_sub (by omega : 1 ≤ k)]
    exact ⟨(nI_leI (by decide) (by omega)).mpr (Nat.zero_le _), (nI_leI (by omega) (by omega)).mpr (by omega)⟩
theorem z_inAB {x : Int32} {a b : Nat} (ha : a < 2 ^ 31) (hb : b < 2 ^ 31) : (nI a ≤ x ∧ x ≤ nI b) ↔ ∃ j : Nat, (a ≤ j ∧ j ≤ b) ∧ x = nI j := by
  constructor
  · rintro ⟨h1, h2⟩
    have h0 : ¬ x < 0 := fun z => nI_pos ha (Int32.lt_of_le_of_lt h1 z)
    obtain ⟨j, hj, rfl⟩ := nI_of h0
    exact ⟨j, ⟨(nI_leI ha hj).mp h1, (nI_leI hj hb).mp h2⟩, rfl⟩
  · rintro ⟨j, ⟨h1, h2⟩, rfl⟩
    exact ⟨(nI_leI ha (by omega)).mpr h1, (nI_leI (by omega) hb).mpr h2⟩
theorem z_in9 {x : Int32} : (nI 0 ≤ x ∧ x ≤ nI 9) ↔ ∃ j : Nat, j < 10 ∧ x = nI j := by
  rw [z_inAB (by decide) (by decide)]
  constructor
  · rintro ⟨j, ⟨-, h⟩, e⟩; exact ⟨j, by omega, e⟩
  · rintro ⟨j, h, e⟩; exact ⟨j, ⟨by omega, by omega⟩, e⟩
theorem z_inM {x : Int32} : (-1 ≤ x ∧ x ≤ nI 9) ↔ isTN x := by
  constructor
  · rintro ⟨h1, h2⟩
    by_cases q : x = -1
    · exact Or.inl q
    · have h0 : ¬ x < 0 := fun z => q (by
        rw [Int32.lt_iff_toInt_lt] at z
        rw [Int32.le_iff_toInt_le] at h1
        rw [← Int32.toInt_inj]
        have e1 : (-1 : Int32).toInt = -1 := by decide
        have e2 : (0 : Int32).toInt = 0 := by decide
        omega)
      obtain ⟨j, hj, rfl⟩ := nI_of h0
      have := (nI_leI hj (by decide)).mp h2
      exact Or.inr ⟨j, by omega, rfl⟩
  · rintro (rfl | ⟨j, hj, rfl⟩)
    · exact ⟨Int32.le_refl _, by decide⟩
    · refine ⟨?_, (nI_leI (by omega) (by decide)).mpr (by omega)⟩
      rw [Int32.le_iff_toInt_le, nI_toInt (by omega)]
      have e1 : (-1 : Int32).toInt = -1 := by decide
      omega
def InM (mt : Nat → Nat → Prop) (Lf F : Nat → Nat) (C0 : Nat → Int32) (w c b fa : Nat) (C1 : Nat → Int32) : Prop := (∀ j, j ≠ w → C1 j = C0 j) ∧ (b, fa, C1 w) = cdoM mt Lf F w c
theorem inm_0 {mt : Nat → Nat → Prop} {Lf F : Nat → Nat} {C0 : Nat → Int32} {w : Nat} : InM mt Lf F C0 w 0 (F (w + 1) + 1) 1 (upd C0 w (-1)) := ⟨fun j hj => pk_un hj, by rw [pk_us]; rfl⟩
theorem inm_skip {mt : Nat → Nat → Prop} {Lf F : Nat → Nat} {C0 C1 : Nat → Int32} {w c b fa : Nat} (h : InM mt Lf F C0 w c b fa C1) (hm : ¬ mt c w) : InM mt Lf F C0 w (c + 1) b fa C1 :=
  ⟨h.1, by rw [h.2]; conv => { rhs; unfold cdoM }; rw [zif_f hm]⟩
theorem inm_stay {mt : Nat → Nat → Prop} {Lf F : Nat → Nat} {C0 C1 : Nat → Int32} {w c b fa : Nat} (h : InM mt Lf F C0 w c b fa C1) (hm : mt c w) (q : b < F (w + Lf c) + 1 ∨ (F (w + Lf c) + 1 = b ∧ Lf c < fa)) : InM mt Lf F C0 w (c + 1) b fa C1 := by
  refine ⟨h.1, ?_⟩
  have h2 := h.2
  unfold cdoM
  rw [zif_t hm, ← h2]
  exact (if_pos q).symm
theorem inm_take {mt : Nat → Nat → Prop} {Lf F : Nat → Nat} {C0 C1 : Nat → Int32} {w c b fa : Nat} (h : InM mt Lf F C0 w c b fa C1) (hm : mt c w) (q : ¬ (b < F (w + Lf c) + 1 ∨ (F (w + Lf c) + 1 = b ∧ Lf c < fa))) : InM mt Lf F C0 w (c + 1) (F (w + Lf c) + 1) (Lf c) (upd C1 w (nI c)) := by
  refine ⟨fun j hj => (pk_un hj).trans (h.1 j hj), ?_⟩
  have h2 := h.2
  unfold cdoM
  rw [zif_t hm, ← h2, pk_us]
  exact (if_neg q).symm
