/-! class and model hang together: codes and their keys -/
theorem ky_inj {a b : Nat → Nat} {u v : Nat} : ∀ m, (∀ p, p < m → a (u + p) < 10) → (∀ p, p < m → b (v + p) < 10) → kyN a u m = kyN b v m → ∀ p, p < m → a (u + p) = b (v + p) := by
  intro m
  induction m with
  | zero => intro _ _ _ p hp; omega
  | succ m ih =>
    intro ha hb h
    have e1 : 11 * kyN a u m + a (u + m) + 1 = 11 * kyN b v m + b (v + m) + 1 := h
    have h1 := ha m (by omega)
    have h2 := hb m (by omega)
    have h3 := ih (fun p hp => ha p (by omega)) (fun p hp => hb p (by omega)) (by omega)
    intro p hp
    by_cases e : p = m
    · subst e; omega
    · exact h3 p (by omega)
theorem ky_len {a b : Nat → Nat} {u v : Nat} : ∀ m m', (∀ p, p < m → a (u + p) < 10) → (∀ p, p < m' → b (v + p) < 10) → kyN a u m = kyN b v m' → m = m' := by
  intro m
  induction m with
  | zero =>
    intro m' _ _ h
    cases m' with
    | zero => rfl
    | succ m' =>
      have e1 : 0 = 11 * kyN b v m' + b (v + m') + 1 := h
      omega
  | succ m ih =>
    intro m' ha hb h
    cases m' with
    | zero =>
      have e1 : 11 * kyN a u m + a (u + m) + 1 = 0 := h
      omega
    | succ m' =>
      have e1 : 11 * kyN a u m + a (u + m) + 1 = 11 * kyN b v m' + b (v + m') + 1 := h
      have h1 := ha m (by omega)
      have h2 := hb m' (by omega)
      rw [ih m' (fun p hp => ha p (by omega)) (fun p hp => hb p (by omega)) (by omega)]
theorem ky_c {a b : Nat → Nat} {u v : Nat} : ∀ m, (∀ p, p < m → a (u + p) = b (v + p)) → kyN a u m = kyN b v m := by
  intro m
  induction m with
  | zero => intro _; rfl
  | succ m ih =>
    intro h
    show 11 * kyN a u m + a (u + m) + 1 = 11 * kyN b v m + b (v + m) + 1
    rw [ih (fun p hp => h p (by omega)), h m (by omega)]
theorem clen_2 {x3 x4 : Int32} (h3 : x3 = -1) (h4 : x4 = -1) : clen x3 x4 = 2 := by unfold clen; rw [if_pos h4, if_pos h3]
theorem clen_3 {x3 x4 : Int32} (h3 : ¬ x3 = -1) (h4 : x4 = -1) : clen x3 x4 = 3 := by unfold clen; rw [if_pos h4, if_neg h3]
theorem clen_4 {x3 x4 : Int32} (h4 : ¬ x4 = -1) : clen x3 x4 = 4 := by unfold clen; rw [if_neg h4]
theorem isT_of {x : Int32} (h : isTN x) (hn : ¬ x = -1) : isT x := h.resolve_left hn
/-- a code that is not bad, as digits -/
theorem ac_key {X : Nat → Int32} (h : ¬ acBad (X 0) (X 1) (X 2) (X 3)) : ∃ a : Nat → Nat, (∀ p, p < clen (X 2) (X 3) → a p < 10 ∧ X p = nI (a p)) ∧ acK (X 0) (X 1) (X 2) (X 3) = nI (kyN a 0 (clen (X 2) (X 3))) := by
  have h1 : isT (X 0) := Classical.byContradiction fun z => h (Or.inl (Or.inl z))
  have h2 : isT (X 1) := Classical.byContradiction fun z => h (Or.inl (Or.inr z))
  have h3 : isTN (X 2) := Classical.byContradiction fun z => h (Or.inr (Or.inl (Or.inl z)))
  have h4 : isTN (X 3) := Classical.byContradiction fun z => h (Or.inr (Or.inl (Or.inr z)))
  obtain ⟨a0, b0, e0⟩ := h1
  obtain ⟨a1, b1, e1⟩ := h2
  have k2 : ac2 (X 0) (X 1) = nI (11 * (11 * 0 + a0 + 1) + a1 + 1) := by
    unfold ac2
    rw [e0, e1, nI_add, pk_mul, nI_add, nI_add]
    congr 1
    omega
  by_cases q3 : X 2 = -1
  · have q4 : X 3 = -1 := ad_4 h q3
    refine ⟨fun p => if p = 0 then a0 else a1, ?_, ?_⟩
    · rw [clen_2 q3 q4]
      intro p hp
      rcases (by omega : p = 0 ∨ p = 1) with rfl | rfl
      · exact ⟨b0, e0⟩
      · exact ⟨b1, e1⟩
    · rw [clen_2 q3 q4]
      unfold acK acN
      rw [if_pos q4, if_pos q3, k2]
      rfl
  · obtain ⟨a2, b2, e2⟩ := isT_of h3 q3
    have k3 : acN (ac2 (X 0) (X 1)) (X 2) = nI (11 * (11 * (11 * 0 + a0 + 1) + a1 + 1) + a2 + 1) := by
      unfold acN
      rw [if_neg q3, k2, e2, pk_mul, nI_add, nI_add]
    by_cases q4 : X 3 = -1
    · refine ⟨fun p => if p = 0 then a0 else if p = 1 then a1 else a2, ?_, ?_⟩
      · rw [clen_3 q3 q4]
        intro p hp
        rcases (by omega : p = 0 ∨ p = 1 ∨ p = 2) with rfl | rfl | rfl
        · exact ⟨b0, e0⟩
        · exact ⟨b1, e1⟩
        · exact ⟨b2, e2⟩
      · rw [clen_3 q3 q4]
        unfold acK
        rw [k3]
        unfold acN
        rw [if_pos q4]
        rfl
    · obtain ⟨a3, b3, e3⟩ := isT_of h4 q4
      refine ⟨fun p => if p = 0 then a0 else if p = 1 then a1 else if p = 2 then a2 else a3, ?_, ?_⟩
      · rw [clen_4 q4]
        intro p hp
        rcases (by omega : p = 0 ∨ p = 1 ∨ p = 2 ∨ p = 3) with rfl | rfl | rfl | rfl
        · exact ⟨b0, e0⟩
        · exact ⟨b1, e1⟩
        · exact ⟨b2, e2⟩
        · exact ⟨b3, e3⟩
      · rw [clen_4 q4]
        unfold acK
        rw [k3]
        unfold acN
        rw [if_neg q4, e3, pk_mul, nI_add, nI_add]
        rfl
theorem ky_b {a : Nat → Nat} {m : Nat} (hm : m ≤ 4) (h : ∀ p, p < m → a p < 10) : kyN a 0 m ≤ 14640 := ky_le (n := m) h hm (by omega)
theorem ac_n1 {x1 x2 x3 x4 : Int32} (h : ¬ acBad x1 x2 x3 x4) : ¬ acK x1 x2 x3 x4 = -1 := by
  obtain ⟨a, h1, h2⟩ := ac_key (X := fun p => if p = 0 then x1 else if p = 1 then x2 else if p = 2 then x3 else x4) h
  have h2 : acK x1 x2 x3 x4 = nI (kyN a 0 (clen x3 x4)) := h2
  have h1 : ∀ p, p < clen x3 x4 → a p < 10 := fun p hp => (h1 p hp).1
  rw [h2]
  have := ky_b (clen_b x3 x4).2 h1
  exact nI_m1 (by omega)
/-- keys tell codes apart -/
theorem ac_inj {X Y : Nat → Int32} (hX : ¬ acBad (X 0) (X 1) (X 2) (X 3)) (hY : ¬ acBad (Y 0) (Y 1) (Y 2) (Y 3)) (h : acK (X 0) (X 1) (X 2) (X 3) = acK (Y 0) (Y 1) (Y 2) (Y 3)) : X 0 = Y 0 ∧ X 1 = Y 1 ∧ X 2 = Y 2 ∧ X 3 = Y 3 := by
  obtain ⟨a, a1, a2⟩ := ac_key hX
  obtain ⟨b, b1, b2⟩ := ac_key hY
  rw [a2, b2] at h
  have c1 := ky_b (clen_b (X 2) (X 3)).2 (fun p hp => (a1 p hp).1)
  have c2 := ky_b (clen_b (Y 2) (Y 3)).2 (fun p hp => (b1 p hp).1)
  have e := (nI_eq (by omega) (by omega)).mp h
  have ha : ∀ p, p < clen (X 2) (X 3) → a (0 + p) < 10 := fun p hp => by rw [Nat.zero_add]; exact (a1 p hp).1
  have hb : ∀ p, p < clen (Y 2) (Y 3) → b (0 + p) < 10 := fun p hp => by rw [Nat.zero_add]; exact (b1 p hp).1
  have hl := ky_len _ _ ha hb e
  rw [← hl] at e hb b1
  have hd := ky_inj _ ha hb e
  have key : ∀ p, p < clen (X 2) (X 3) → X p = Y p := fun p hp => by
    have h1 := hd p hp
    rw [Nat.zero_add] at h1
    rw [(a1 p hp).2, (b1 p hp).2, h1]
  have hb2 := clen_b (X 2) (X 3)
  refine ⟨key 0 (by omega), key 1 (by omega), ?_, ?_⟩
  · by_cases q : X 2 = -1
    · have q4 : X 3 = -1 := ad_4 hX q
      have l2 : clen (Y 2) (Y 3) = 2 := by rw [← hl, clen_2 q q4]
      have : Y 2 = -1 := Classical.byContradiction fun z => by
        by_cases y4 : Y 3 = -1
        · rw [clen_3 z y4] at l2; omega
        · rw [clen_4 y4] at l2; omega
      rw [q, this]
    · refine key 2 ?_
      by_cases q4 : X 3 = -1
      · rw [clen_3 q q4]; omega
      · rw [clen_4 q4]; omega
  · by_cases q4 : X 3 = -1
    · have l3 : clen (Y 2) (Y 3) ≤ 3 := by
        rw [← hl]
        by_cases q : X 2 = -1
        · rw [clen_2 q q4]; omega
        · rw [clen_3 q q4]; omega
      have : Y 3 = -1 := Classical.byContradiction fun z => by rw [clen_4 z] at l3; omega
      rw [q4, this]
    · exact key 3 (by rw [clen_4 q4]; omega)
/-- a code of the book, and what the model keeps of it -/
def CR (T : Nat → Int32) (Lf : Nat → Nat) (K : Nat → Int32) (Lm : Nat → Nat) (k : Nat) : Prop := ∀ c, c < k → ¬ acBad (T (c * 4 + 0)) (T (c * 4 + 1)) (T (c * 4 + 2)) (T (c * 4 + 3)) ∧ Lf c = clen (T (c * 4 + 2)) (T (c * 4 + 3)) ∧ K c = acK (T (c * 4 + 0)) (T (c * 4 + 1)) (T (c * 4 + 2)) (T (c * 4 + 3)) ∧ Lm c = Lf c
def KD (K : Nat → Int32) (k : Nat) : Prop := ∀ a b, a < b → b < k → ¬ K a = K b
section COUPLE
variable {t : Nat → Nat} {n : Nat} {T : Nat → Int32} {Lf : Nat → Nat} {K : Nat → Int32} {Lm : Nat → Nat} {k : Nat}
theorem cr_L (h : CR T Lf K Lm k) : ∀ c, c < k → 2 ≤ Lf c ∧ Lf c ≤ 4 := fun c hc => by rw [(h c hc).2.1]; exact clen_b _ _
theorem cr_Lm (h : CR T Lf K Lm k) : ∀ c, c < k → 2 ≤ Lm c ∧ Lm c ≤ 4 := fun c hc => by rw [(h c hc).2.2.2]; exact cr_L h c hc
theorem cr_K (h : CR T Lf K Lm k) : ∀ c, c < k → ¬ K c = -1 := fun c hc => by rw [(h c hc).2.2.1]; exact ac_n1 (h c hc).1
theorem cr_mt (ht : ∀ j, j < n → t j < 10) (h : CR T Lf K Lm k) {wo : Int32} {c w : Nat} (hc : c < k) : mtM t n K Lm wo c w ↔ mtC t n T Lf wo c w := by
  obtain ⟨h1, h2, h3, h4⟩ := h c hc
  have hb := cr_L h c hc
  obtain ⟨a, a1, a2⟩ := ac_key (X := fun p => T (c * 4 + p)) h1
  have a1 : ∀ p, p < Lf c → a p < 10 ∧ T (c * 4 + p) = nI (a p) := by rw [h2]; exact a1
  have a2 : K c = nI (kyN a 0 (Lf c)) := by rw [h3, h2]; exact a2
  have kb := ky_b hb.2 (fun p hp => (a1 p hp).1)
  unfold mtM mtC
  rw [h4]
  constructor
  · rintro ⟨q1, q2⟩
    unfold kyA at q2
    by_cases z : n < w + Lf c
    · rw [if_pos z] at q2
      exact absurd q2.symm (cr_K h c hc)
    · rw [if_neg z, a2] at q2
      have kt := ky_le (w := w) ht hb.2 (by omega)
      have e := (nI_eq (by omega) (by omega)).mp q2
      have hd := ky_inj _ (fun p hp => ht _ (by omega)) (fun p hp => by rw [Nat.zero_add]; exact (a1 p hp).1) e
      refine ⟨q1, by omega, fun p hp => ?_⟩
      have h5 := hd p hp
      rw [Nat.zero_add] at h5
      rw [h5, (a1 p hp).2]
  · rintro ⟨q1, q2, q3⟩
    refine ⟨q1, ?_⟩
    unfold kyA
    rw [if_neg (by omega), a2]
    congr 1
    refine ky_c _ (fun p hp => ?_)
    have h5 := q3 p hp
    rw [(a1 p hp).2] at h5
    have h6 := ht (w + p) (by omega)
    have h7 := (a1 p hp).1
    rw [Nat.zero_add]
    exact (nI_eq (by omega) (by omega)).mp h5
theorem cr_dst {wo : Int32} (h : CR T Lf K Lm k) (hd : KD K k) : Dst (mtM t n K Lm wo) Lm k n := by
  intro w _ a b hab hb h1 h2 e
  have e1 := h1.2
  have e2 := h2.2
  rw [e] at e1
  exact hd a b hab hb (e1.symm.trans e2)
theorem cdo_m {mt mt' : Nat → Nat → Prop} {Lf Lf' F : Nat → Nat} {w : Nat} : ∀ c, (∀ j, j < c → (mt j w ↔ mt' j w) ∧ Lf j = Lf' j) → cdo mt Lf F w c = cdo mt' Lf' F w c := by
  intro c
  induction c with
  | zero => intro _; rfl
  | succ c ih =>
    intro h
    have h1 := ih (fun j hj => h j (by omega))
    have h2 := h c (by omega)
    unfold cdo
    rw [h1, propext h2.1, h2.2]
/-- the class's parting is the model's -/
theorem cr_om (ht : ∀ j, j < n → t j < 10) (h : CR T Lf K Lm k) (hd : KD K k) {wo : Int32} {f lf : Nat → Nat} {C : Nat → Int32} {ps : Nat → Nat} {cnt : Nat} (hp : PartC t n T Lf k wo 0 0 f lf C ps cnt) : OutM (mtM t n K Lm wo) Lm k n f lf C 0 := by
  refine ⟨hp.1.1, fun j a b => ?_, hp.1.2.2.1, hp.1.2.2.2⟩
  rw [hp.1.2.1 j a b]
  unfold res
  rw [zif_f (fun q => absurd q.1 (Nat.lt_irrefl 0)), cdoM_eq (mbm (cr_Lm h) (cr_K h)) (cr_dst h hd) b k (Nat.le_refl k)]
  exact (cdo_m k (fun c hc => ⟨cr_mt ht h hc, (h c hc).2.2.2⟩)).symm
theorem st_gi {lf ps : Nat → Nat} {cnt : Nat} (h : StI lf n ps cnt) : GI lf n cnt := ⟨fun j hj => (h.1 j hj).2, h.2.1⟩
theorem cr_g (ht : ∀ j, j < n → t j < 10) (h : CR T Lf K Lm k) (hd : KD K k) {wo : Int32} {f lf : Nat → Nat} {C : Nat → Int32} {ps : Nat → Nat} {cnt : Nat} (hp : PartC t n T Lf k wo 0 0 f lf C ps cnt) : cnt = gM t n K Lm k wo := by
  have ho := cr_om ht h hd hp
  rw [← gM_eq (mbm (cr_Lm h) (cr_K h)) ho]
  exact (om_g ho (st_gi hp.2)).symm
theorem cr_p (ht : ∀ j, j < n → t j < 10) (h : CR T Lf K Lm k) (hd : KD K k) {f lf : Nat → Nat} {C : Nat → Int32} {ps : Nat → Nat} {cnt : Nat} (hp : PartC t n T Lf k (-1) 0 0 f lf C ps cnt) {g : Nat} (hg : g < cnt) : ps g = pM t n K Lm k g ∧ C (ps g) = xM t n K Lm k g := by
  have ho := cr_om ht h hd hp
  have hM := mbm (t := t) (n := n) (bu := -1) (cr_Lm h) (cr_K h)
  have e1 : ps g = posN lf g := (hp.2.1 g hg).1
  rw [e1]
  exact ⟨pM_eq hM ho g (fun j hj => (hp.2.1 j (by omega)).2), xM_eq hM ho (fun j hj => (hp.2.1 j (by omega)).2)⟩
theorem cr_ct (ht : ∀ j, j < n → t j < 10) (h : CR T Lf K Lm k) (hd : KD K k) {f lf : Nat → Nat} {C : Nat → Int32} {ps : Nat → Nat} {cnt : Nat} (hp : PartC t n T Lf k (-1) 0 0 f lf C ps cnt) : sN (ctW C ps t) cnt = ctM t n K Lm k := by
  unfold ctM
  rw [← cr_g ht h hd hp]
  refine sN_c cnt (fun j hj => ?_)
  obtain ⟨e1, e2⟩ := cr_p ht h hd hp hj
  unfold ctW
  rw [e2, e1]
theorem cN_c {P Q : Nat → Prop} : ∀ m, (∀ j, j < m → (P j ↔ Q j)) → cN P m = cN Q m := by
  intro m
  induction m with
  | zero => intro _; rfl
  | succ m ih =>
    intro h
    have h2 := propext (h m (by omega))
    show cN P m + @ite _ (P m) (Classical.propDecidable _) 1 0 = cN Q m + @ite _ (Q m) (Classical.propDecidable _) 1 0
    rw [ih (fun j hj => h j (by omega)), h2]
theorem cr_us (ht : ∀ j, j < n → t j < 10) (h : CR T Lf K Lm k) (hd : KD K k) {f lf : Nat → Nat} {C : Nat → Int32} {ps : Nat → Nat} {cnt : Nat} (hp : PartC t n T Lf k (-1) 0 0 f lf C ps cnt) (x : Int32) : cN (fun j => C (ps j) = x) cnt = usM t n K Lm k x := by
  unfold usM
  rw [← cr_g ht h hd hp]
  exact cN_c cnt (fun j hj => by rw [(cr_p ht h hd hp hj).2])
end COUPLE
/-- fewer codes, no fewer groups -/
theorem cdoM_min {mt : Nat → Nat → Prop} {Lf F : Nat → Nat} {w : Nat} : ∀ c, (cdoM mt Lf F w c).1 ≤ F (w + 1) + 1 ∧ ∀ c', c' < c → mt c' w → (cdoM mt Lf F w c).1 ≤ F (w + Lf c') + 1 := by
  intro c
  induction c with
  | zero => exact ⟨Nat.le_refl _, fun c' h => absurd h (Nat.not_lt_zero _)⟩
  | succ c ih =>
    have step : ∀ x : Nat × Nat × Int32, (stpM F w (Lf c) (nI c) x).1 ≤ x.1 ∧ (stpM F w (Lf c) (nI c) x).1 ≤ F (w + Lf c) + 1 := by
      intro x
      unfold stpM
      split
      · rename_i q
        exact ⟨Nat.le_refl _, by omega⟩
      · rename_i q
        exact ⟨by show F (w + Lf c) + 1 ≤ x.1; omega, Nat.le_refl _⟩
    unfold cdoM
    by_cases q : mt c w
    · rw [zif_t q]
      obtain ⟨s1, s2⟩ := step (cdoM mt Lf F w c)
      refine ⟨Nat.le_trans s1 ih.1, fun c' h1 h2 => ?_⟩
      by_cases e : c' = c
      · rw [e]; exact s2
      · exact Nat.le_trans s1 (ih.2 c' (by omega) h2)
    · rw [zif_f q]
      refine ⟨ih.1, fun c' h1 h2 => ?_⟩
      by_cases e : c' = c
      · rw [e] at h2; exact absurd h2 q
      · exact ih.2 c' (by omega) h2
theorem om_mono {mt mt' : Nat → Nat → Prop} {Lf : Nat → Nat} {k n : Nat} {F lf F' lf' : Nat → Nat} {C C' : Nat → Int32} (hM : MBm mt Lf k n) (hs : ∀ c w, c < k → mt' c w → mt c w) (h : OutM mt Lf k n F lf C 0) (h' : OutM mt' Lf k n F' lf' C' 0) : ∀ m j, j ≤ n → n - j ≤ m → F j ≤ F' j := by
  intro m
  induction m with
  | zero => intro j h1 h2; rw [show j = n by omega, h.1, h'.1]; exact Nat.le_refl _
  | succ m ih =>
    intro j h1 h2
    by_cases e : j = n
    · rw [e, h.1, h'.1]; exact Nat.le_refl _
    · have e1 := congrArg Prod.fst (h.2.1 j (Nat.zero_le _) (by omega))
      have e2 := congrArg Prod.fst (h'.2.1 j (Nat.zero_le _) (by omega))
      dsimp only at e1 e2
      rw [e1, e2, cdoM_1 (mt := mt') k]
      have hmin := cdoM_min (mt := mt) (Lf := Lf) (F := F) (w := j) k
      rcases cdoM_far (mt := mt') (Lf := Lf) (F := F') (w := j) k with ⟨-, a⟩ | ⟨c, a1, a2, -, a3⟩
      · rw [a]
        have := ih (j + 1) (by omega) (by omega)
        have := hmin.1
        omega
      · rw [a3]
        have hb := hM j (by omega) c a1 (hs c j a1 a2)
        have h3 := ih (j + Lf c) (by omega) (by omega)
        have h4 := hmin.2 c a1 (hs c j a1 a2)
        omega
