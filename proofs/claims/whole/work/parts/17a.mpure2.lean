/-! the model's parting, as numbers that its message, keys and lengths give: what it does is unique -/
theorem cdoM_m {mt mt' : Nat → Nat → Prop} {Lf Lf' F : Nat → Nat} {w : Nat} : ∀ c, (∀ j, j < c → (mt j w ↔ mt' j w) ∧ Lf j = Lf' j) → cdoM mt Lf F w c = cdoM mt' Lf' F w c := by
  intro c
  induction c with
  | zero => intro _; rfl
  | succ c ih =>
    intro h
    have h1 := ih (fun j hj => h j (by omega))
    have h2 := h c (by omega)
    unfold cdoM
    rw [h1, propext h2.1, h2.2]
theorem om_m {mt mt' : Nat → Nat → Prop} {Lf Lf' : Nat → Nat} {k n : Nat} {F lf : Nat → Nat} {C : Nat → Int32} {w : Nat} (h : ∀ w, w < n → ∀ j, j < k → (mt j w ↔ mt' j w) ∧ Lf j = Lf' j) (ho : OutM mt Lf k n F lf C w) : OutM mt' Lf' k n F lf C w :=
  ⟨ho.1, fun j a b => by rw [ho.2.1 j a b]; exact cdoM_m k (h j b), ho.2.2.1, ho.2.2.2⟩
theorem cdoM_cn {mt : Nat → Nat → Prop} {Lf F G : Nat → Nat} {k n w : Nat} (hM : MBm mt Lf k n) (hw : w < n) (h : ∀ j, w < j → j ≤ n → F j = G j) : ∀ c, c ≤ k → cdoM mt Lf F w c = cdoM mt Lf G w c := by
  intro c
  induction c with
  | zero => intro _; unfold cdoM; rw [h (w + 1) (by omega) (by omega)]
  | succ c ih =>
    intro hc
    unfold cdoM
    rw [ih (by omega)]
    by_cases q : mt c w
    · rw [zif_t q, zif_t q]
      have := hM w hw c (by omega) q
      unfold stpM
      rw [h (w + Lf c) (by omega) (by omega)]
    · rw [zif_f q, zif_f q]
theorem om_uF {mt : Nat → Nat → Prop} {Lf : Nat → Nat} {k n : Nat} {F lf F' lf' : Nat → Nat} {C C' : Nat → Int32} (hM : MBm mt Lf k n) (h : OutM mt Lf k n F lf C 0) (h' : OutM mt Lf k n F' lf' C' 0) : ∀ m j, j ≤ n → n - j ≤ m → F j = F' j := by
  intro m
  induction m with
  | zero => intro j h1 h2; rw [show j = n by omega, h.1, h'.1]
  | succ m ih =>
    intro j h1 h2
    by_cases e : j = n
    · rw [e, h.1, h'.1]
    · have e1 := h.2.1 j (Nat.zero_le _) (by omega)
      have e2 := h'.2.1 j (Nat.zero_le _) (by omega)
      rw [cdoM_cn hM (by omega) (fun i hi hin => ih i hin (by omega)) k (Nat.le_refl k), ← e2] at e1
      exact congrArg Prod.fst e1
theorem om_uq {mt : Nat → Nat → Prop} {Lf : Nat → Nat} {k n : Nat} {F lf F' lf' : Nat → Nat} {C C' : Nat → Int32} (hM : MBm mt Lf k n) (h : OutM mt Lf k n F lf C 0) (h' : OutM mt Lf k n F' lf' C' 0) {j : Nat} (hj : j < n) : lf j = lf' j ∧ C j = C' j := by
  have e1 := h.2.1 j (Nat.zero_le _) hj
  have e2 := h'.2.1 j (Nat.zero_le _) hj
  rw [cdoM_cn hM hj (fun i hi hin => om_uF hM h h' n i hin (by omega)) k (Nat.le_refl k), ← e2] at e1
  exact ⟨congrArg (fun x => x.2.1) e1, congrArg (fun x => x.2.2) e1⟩
noncomputable def eM (t : Nat → Nat) (n : Nat) (K : Nat → Int32) (Lm : Nat → Nat) (my : Nat) (bu : Int32) : (Nat → Nat) × (Nat → Nat) × (Nat → Int32) :=
  Classical.epsilon (fun x : (Nat → Nat) × (Nat → Nat) × (Nat → Int32) => OutM (mtM t n K Lm bu) Lm my n x.1 x.2.1 x.2.2 0)
theorem eM_ok {t : Nat → Nat} {n : Nat} {K : Nat → Int32} {Lm : Nat → Nat} {my : Nat} {bu : Int32} {F lf : Nat → Nat} {C : Nat → Int32} (h : OutM (mtM t n K Lm bu) Lm my n F lf C 0) : OutM (mtM t n K Lm bu) Lm my n (eM t n K Lm my bu).1 (eM t n K Lm my bu).2.1 (eM t n K Lm my bu).2.2 0 :=
  Classical.epsilon_spec (p := fun x : (Nat → Nat) × (Nat → Nat) × (Nat → Int32) => OutM (mtM t n K Lm bu) Lm my n x.1 x.2.1 x.2.2 0) ⟨(F, lf, C), h⟩
theorem eM_c {t : Nat → Nat} {n : Nat} {K K' : Nat → Int32} {Lm Lm' : Nat → Nat} {my : Nat} {bu : Int32} (h : ∀ c, c < my → K c = K' c ∧ Lm c = Lm' c) : eM t n K Lm my bu = eM t n K' Lm' my bu := by
  unfold eM
  refine congrArg Classical.epsilon (funext fun x => propext ⟨fun q => om_m (fun w _ j hj => ?_) q, fun q => om_m (fun w _ j hj => ?_) q⟩)
  · unfold mtM
    rw [(h j hj).1, (h j hj).2]
    exact ⟨Iff.rfl, rfl⟩
  · unfold mtM
    rw [(h j hj).1, (h j hj).2]
    exact ⟨Iff.rfl, rfl⟩
noncomputable def gM (t : Nat → Nat) (n : Nat) (K : Nat → Int32) (Lm : Nat → Nat) (my : Nat) (bu : Int32) : Nat := (eM t n K Lm my bu).1 0
noncomputable def pM (t : Nat → Nat) (n : Nat) (K : Nat → Int32) (Lm : Nat → Nat) (my j : Nat) : Nat := posN (eM t n K Lm my (-1)).2.1 j
noncomputable def xM (t : Nat → Nat) (n : Nat) (K : Nat → Int32) (Lm : Nat → Nat) (my j : Nat) : Int32 := (eM t n K Lm my (-1)).2.2 (pM t n K Lm my j)
noncomputable def ctM (t : Nat → Nat) (n : Nat) (K : Nat → Int32) (Lm : Nat → Nat) (my : Nat) : Nat := sN (fun j => zif (xM t n K Lm my j = -1) (wc (t (pM t n K Lm my j))) 1) (gM t n K Lm my (-1))
noncomputable def usM (t : Nat → Nat) (n : Nat) (K : Nat → Int32) (Lm : Nat → Nat) (my : Nat) (x : Int32) : Nat := cN (fun j => xM t n K Lm my j = x) (gM t n K Lm my (-1))
theorem om_gi {mt : Nat → Nat → Prop} {Lf : Nat → Nat} {k n : Nat} {F lf : Nat → Nat} {C : Nat → Int32} (h : OutM mt Lf k n F lf C 0) : GI lf n (F 0) := by
  obtain ⟨g, hg⟩ := gi_ex (lf := lf) (n := n) (fun j hj => ⟨(h.2.2.2 j (Nat.zero_le _) hj).1, (h.2.2.2 j (Nat.zero_le _) hj).2.1⟩)
  rw [om_g h hg]; exact hg
section MPURE
variable {t : Nat → Nat} {n : Nat} {K : Nat → Int32} {Lm : Nat → Nat} {my : Nat} {bu : Int32} {F lf : Nat → Nat} {C : Nat → Int32}
theorem gM_eq (hM : MBm (mtM t n K Lm bu) Lm my n) (h : OutM (mtM t n K Lm bu) Lm my n F lf C 0) : F 0 = gM t n K Lm my bu := om_uF hM h (eM_ok h) n 0 (Nat.zero_le _) (by omega)
theorem gM_gi (hM : MBm (mtM t n K Lm bu) Lm my n) (h : OutM (mtM t n K Lm bu) Lm my n F lf C 0) : GI lf n (gM t n K Lm my bu) := by rw [← gM_eq hM h]; exact om_gi h
theorem gM_le (hM : MBm (mtM t n K Lm bu) Lm my n) (h : OutM (mtM t n K Lm bu) Lm my n F lf C 0) : gM t n K Lm my bu ≤ n := by rw [← gM_eq hM h]; exact h.2.2.1 0 (Nat.le_refl _) (Nat.zero_le _)
theorem pM_eq (hM : MBm (mtM t n K Lm (-1)) Lm my n) (h : OutM (mtM t n K Lm (-1)) Lm my n F lf C 0) : ∀ g, (∀ j, j < g → posN lf j < n) → posN lf g = pM t n K Lm my g := by
  intro g
  induction g with
  | zero => intro _; rfl
  | succ g ih =>
    intro hg
    have h1 := ih (fun j hj => hg j (by omega))
    have h2 := (om_uq hM h (eM_ok h) (hg g (by omega))).1
    unfold pM at h1 ⊢
    show posN lf g + lf (posN lf g) = posN _ g + (eM t n K Lm my (-1)).2.1 (posN _ g)
    rw [← h1, h2]
theorem xM_eq (hM : MBm (mtM t n K Lm (-1)) Lm my n) (h : OutM (mtM t n K Lm (-1)) Lm my n F lf C 0) {g : Nat} (hg : ∀ j, j ≤ g → posN lf j < n) : C (posN lf g) = xM t n K Lm my g := by
  unfold xM
  rw [← pM_eq hM h g (fun j hj => hg j (by omega))]
  exact (om_uq hM h (eM_ok h) (hg g (Nat.le_refl _))).2
theorem ctM_eq (hM : MBm (mtM t n K Lm (-1)) Lm my n) (h : OutM (mtM t n K Lm (-1)) Lm my n F lf C 0) {g : Nat} (hg : GI lf n g) : sN (ctW C (posN lf) t) g = ctM t n K Lm my := by
  have h1 := om_g h hg
  unfold ctM
  rw [← gM_eq hM h, h1]
  refine sN_c g (fun j hj => ?_)
  unfold ctW
  rw [xM_eq hM h (fun i hi => hg.1 i (by omega)), pM_eq hM h j (fun i hi => hg.1 i (by omega))]
theorem usM_eq (hM : MBm (mtM t n K Lm (-1)) Lm my n) (h : OutM (mtM t n K Lm (-1)) Lm my n F lf C 0) {g : Nat} (hg : GI lf n g) (x : Int32) : cN (fun j => C (posN lf j) = x) g = usM t n K Lm my x := by
  have h1 := om_g h hg
  unfold usM
  rw [← gM_eq hM h, h1]
  have key : ∀ m, m ≤ g → cN (fun j => C (posN lf j) = x) m = cN (fun j => xM t n K Lm my j = x) m := by
    intro m
    induction m with
    | zero => intro _; rfl
    | succ m ih =>
      intro hm
      have h2 := xM_eq hM h (g := m) (fun i hi => hg.1 i (by omega))
      have h3 := ih (by omega)
      show cN _ m + @ite _ (C (posN lf m) = x) (Classical.propDecidable _) 1 0 = cN _ m + @ite _ (xM t n K Lm my m = x) (Classical.propDecidable _) 1 0
      rw [h3, h2]
  exact key g (Nat.le_refl g)
theorem gi_le {lf : Nat → Nat} {n g : Nat} (h : ∀ j, j < n → 1 ≤ lf j) (hg : ∀ j, j < g → posN lf j < n) : g ≤ posN lf g := by
  induction g with
  | zero => exact Nat.zero_le _
  | succ g ih =>
    have h1 := ih (fun j hj => hg j (by omega))
    have h2 := h _ (hg g (by omega))
    show g + 1 ≤ posN lf g + lf (posN lf g)
    omega
end MPURE
theorem ctM_le (t : Nat → Nat) (n : Nat) (K : Nat → Int32) (Lm : Nat → Nat) (my : Nat) : ctM t n K Lm my ≤ 2 * gM t n K Lm my (-1) := by
  unfold ctM
  refine sN_le _ (fun j _ => ?_)
  unfold zif
  split
  · exact wc_le _
  · decide
theorem ky_le {t : Nat → Nat} {n w : Nat} (ht : ∀ j, j < n → t j < 10) {m : Nat} (hm : m ≤ 4) (hw : w + m ≤ n) : kyN t w m ≤ 14640 := by
  have a0 : kyN t w 0 = 0 := rfl
  have a1 : kyN t w 1 = 11 * kyN t w 0 + t (w + 0) + 1 := rfl
  have a2 : kyN t w 2 = 11 * kyN t w 1 + t (w + 1) + 1 := rfl
  have a3 : kyN t w 3 = 11 * kyN t w 2 + t (w + 2) + 1 := rfl
  have a4 : kyN t w 4 = 11 * kyN t w 3 + t (w + 3) + 1 := rfl
  rcases (by omega : m = 0 ∨ m = 1 ∨ m = 2 ∨ m = 3 ∨ m = 4) with rfl | rfl | rfl | rfl | rfl
  · omega
  · have := ht (w + 0) (by omega)
    omega
  · have := ht (w + 0) (by omega)
    have := ht (w + 1) (by omega)
    omega
  · have := ht (w + 0) (by omega)
    have := ht (w + 1) (by omega)
    have := ht (w + 2) (by omega)
    omega
  · have := ht (w + 0) (by omega)
    have := ht (w + 1) (by omega)
    have := ht (w + 2) (by omega)
    have := ht (w + 3) (by omega)
    omega
theorem kyA_n {t : Nat → Nat} {n w : Nat} (ht : ∀ j, j < n → t j < 10) {m : Nat} (hm : m ≤ 4) (hw : w + m ≤ n) : ¬ kyA t n w m = -1 := by
  unfold kyA
  rw [if_neg (by omega)]
  have := ky_le ht hm hw
  exact nI_m1 (by omega)
def ulM (t : Nat → Nat) (n : Nat) (K : Nat → Int32) (Lm : Nat → Nat) (k : Nat) (r : Int32) : Prop :=
  (∃ c, c < k ∧ r = nI c ∧ gM t n K Lm k (nI c) = gM t n K Lm k (-1) ∧ ∀ j, j < c → ¬ gM t n K Lm k (nI j) = gM t n K Lm k (-1)) ∨ (r = -1 ∧ ∀ j, j < k → ¬ gM t n K Lm k (nI j) = gM t n K Lm k (-1))
noncomputable def nM (t : Nat → Nat) (n : Nat) (K : Nat → Int32) (Lm : Nat → Nat) (k m s : Nat) : Nat := gM t n (upd K k (kyA t n s m)) (updN Lm k m) (k + 1) (-1)
def bmI (t : Nat → Nat) (n : Nat) (K : Nat → Int32) (Lm : Nat → Nat) (k m i : Nat) (bb : Int32) (fw : Nat) : Prop :=
  (i = 0 ∧ bb = -1 ∧ fw = 25) ∨ ∃ s, s < i ∧ s + m ≤ n ∧ bb = nI s ∧ fw = nM t n K Lm k m s ∧ fw ≤ 24 ∧ (∀ j, j < s → fw < nM t n K Lm k m j) ∧ ∀ j, s < j → j < i → fw ≤ nM t n K Lm k m j
def bmR (t : Nat → Nat) (n : Nat) (K : Nat → Int32) (Lm : Nat → Nat) (k m : Nat) (r : Int32) : Prop :=
  (n < m ∧ r = -1) ∨ ∃ s, s + m ≤ n ∧ r = nI s ∧ (∀ j, j < s → nM t n K Lm k m s < nM t n K Lm k m j) ∧ ∀ j, s < j → j + m ≤ n → nM t n K Lm k m s ≤ nM t n K Lm k m j
section BM
variable {t : Nat → Nat} {n : Nat} {K : Nat → Int32} {Lm : Nat → Nat} {k m i fw : Nat} {bb : Int32}
theorem bm_0 : bmI t n K Lm k m 0 (-1) 25 := Or.inl ⟨rfl, rfl, rfl⟩
theorem bm_b (h : bmI t n K Lm k m i bb fw) : fw ≤ 25 := by
  rcases h with ⟨-, -, h⟩ | ⟨s, -, -, -, -, h, -⟩
  · omega
  · omega
theorem bm_t (h : bmI t n K Lm k m i bb fw) (hi : i + m ≤ n) (h24 : nM t n K Lm k m i ≤ 24) (hl : nM t n K Lm k m i < fw) : bmI t n K Lm k m (i + 1) (nI i) (nM t n K Lm k m i) := by
  refine Or.inr ⟨i, by omega, hi, rfl, rfl, h24, fun j hj => ?_, fun j a b => by omega⟩
  rcases h with ⟨h, -⟩ | ⟨s, h1, h2, h3, h4, h5, h6, h7⟩
  · omega
  · rcases (by omega : j < s ∨ j = s ∨ s < j) with z | z | z
    · have := h6 j z
      omega
    · rw [z, ← h4]; exact hl
    · have := h7 j z hj
      omega
theorem bm_s (h : bmI t n K Lm k m i bb fw) (h24 : nM t n K Lm k m i ≤ 24) (hl : fw ≤ nM t n K Lm k m i) : bmI t n K Lm k m (i + 1) bb fw := by
  rcases h with ⟨-, -, h⟩ | ⟨s, h1, h2, h3, h4, h5, h6, h7⟩
  · omega
  · exact Or.inr ⟨s, by omega, h2, h3, h4, h5, h6, fun j a b => by
      by_cases e : j = i
      · rw [e]; exact hl
      · exact h7 j a (by omega)⟩
theorem bm_e (h : bmI t n K Lm k m i bb fw) (hi : n < i + m) : bmR t n K Lm k m bb := by
  rcases h with ⟨h, h1, -⟩ | ⟨s, h1, h2, h3, h4, h5, h6, h7⟩
  · exact Or.inl ⟨by omega, h1⟩
  · exact Or.inr ⟨s, h2, h3, fun j hj => by rw [← h4]; exact h6 j hj, fun j a b => by rw [← h4]; exact h7 j a (by omega)⟩
end BM
section CONG
variable {t : Nat → Nat} {n : Nat} {K K' : Nat → Int32} {Lm Lm' : Nat → Nat} {k : Nat}
theorem gM_c {bu : Int32} (h : ∀ c, c < k → K c = K' c ∧ Lm c = Lm' c) : gM t n K Lm k bu = gM t n K' Lm' k bu := by unfold gM; rw [eM_c h]
theorem pM_c (h : ∀ c, c < k → K c = K' c ∧ Lm c = Lm' c) (j : Nat) : pM t n K Lm k j = pM t n K' Lm' k j := by unfold pM; rw [eM_c h]
theorem xM_c (h : ∀ c, c < k → K c = K' c ∧ Lm c = Lm' c) (j : Nat) : xM t n K Lm k j = xM t n K' Lm' k j := by unfold xM; rw [eM_c h, pM_c h]
theorem usM_c (h : ∀ c, c < k → K c = K' c ∧ Lm c = Lm' c) (x : Int32) : usM t n K Lm k x = usM t n K' Lm' k x := by
  unfold usM
  rw [gM_c h, show (fun j => xM t n K Lm k j = x) = fun j => xM t n K' Lm' k j = x from funext fun j => by rw [xM_c h]]
theorem nM_c {m s : Nat} (h : ∀ c, c < k → K c = K' c ∧ Lm c = Lm' c) : nM t n K Lm k m s = nM t n K' Lm' k m s := by
  unfold nM
  refine gM_c (fun c hc => ?_)
  by_cases e : c = k
  · rw [e, pk_us, pk_us, updN_s, updN_s]; exact ⟨rfl, rfl⟩
  · rw [pk_un e, pk_un e, updN_n _ e, updN_n _ e]; exact h c (by omega)
theorem bmR_c {m : Nat} {r : Int32} (h : ∀ c, c < k → K c = K' c ∧ Lm c = Lm' c) (q : bmR t n K Lm k m r) : bmR t n K' Lm' k m r := by
  unfold bmR at q ⊢
  simp only [nM_c h] at q
  exact q
end CONG
/-- a code dropped: what lies behind it moves up -/
def ShI {α : Type} (K K1 : Nat → α) (j i : Nat) : Prop := (∀ c, c < i → K1 c = if c < j then K c else K (c + 1)) ∧ ∀ c, i ≤ c → K1 c = K c
theorem sh_0 {α : Type} (K : Nat → α) (j : Nat) : ShI K K j j := ⟨fun c hc => (if_pos hc).symm, fun _ _ => rfl⟩
theorem sh_1 {K K1 : Nat → Int32} {j i : Nat} (h : ShI K K1 j i) (hj : j ≤ i) : ShI K (upd K1 i (K1 (i + 1))) j (i + 1) := by
  refine ⟨fun c hc => ?_, fun c hc => by rw [pk_un (by omega)]; exact h.2 c (by omega)⟩
  by_cases e : c = i
  · rw [e, pk_us, if_neg (by omega)]; exact h.2 (i + 1) (by omega)
  · rw [pk_un e]; exact h.1 c (by omega)
theorem sh_1N {K K1 : Nat → Nat} {j i : Nat} (h : ShI K K1 j i) (hj : j ≤ i) : ShI K (updN K1 i (K1 (i + 1))) j (i + 1) := by
  refine ⟨fun c hc => ?_, fun c hc => by rw [updN_n _ (by omega)]; exact h.2 c (by omega)⟩
  by_cases e : c = i
  · rw [e, updN_s, if_neg (by omega)]; exact h.2 (i + 1) (by omega)
  · rw [updN_n _ e]; exact h.1 c (by omega)
/-- a code's key, as it is counted out -/
def ac2 (x1 x2 : Int32) : Int32 := nI 11 * (x1 + nI 1) + x2 + nI 1
def acN (e x : Int32) : Int32 := if x = -1 then e else nI 11 * e + x + nI 1
def acK (x1 x2 x3 x4 : Int32) : Int32 := acN (acN (ac2 x1 x2) x3) x4
def acDm (K : Nat → Int32) (k : Nat) (y : Int32) (i : Nat) : Prop := k = 8 ∨ ∃ c, c < i ∧ K c = y
/-- there is such a parting -/
theorem om_ex {mt : Nat → Nat → Prop} {Lf : Nat → Nat} {k n : Nat} (hM : MBm mt Lf k n) : ∀ m, m ≤ n → ∃ (F lf : Nat → Nat) (C : Nat → Int32), OutM mt Lf k n F lf C (n - m) := by
  intro m
  induction m with
  | zero => intro _; exact ⟨updN (fun _ => 0) n 0, fun _ => 0, fun _ => 0, om_0⟩
  | succ m ih =>
    intro h
    obtain ⟨F, lf, C, ho⟩ := ih (by omega)
    rw [show n - m = (n - (m + 1)) + 1 by omega] at ho
    exact ⟨_, _, _, om_step (b := (cdoM mt Lf F (n - (m + 1)) k).1) (fa := (cdoM mt Lf F (n - (m + 1)) k).2.1) (C1 := upd C (n - (m + 1)) (cdoM mt Lf F (n - (m + 1)) k).2.2) hM (by omega) ho (fun j hj => pk_un hj) (by rw [pk_us])⟩
theorem gM_leU {t : Nat → Nat} {n : Nat} {K : Nat → Int32} {Lm : Nat → Nat} {k : Nat} {bu : Int32} (hL : ∀ c, c < k → 2 ≤ Lm c ∧ Lm c ≤ 4) (hK : ∀ c, c < k → ¬ K c = -1) : gM t n K Lm k bu ≤ n := by
  obtain ⟨F, lf, C, h⟩ := om_ex (mbm (t := t) (n := n) (bu := bu) hL hK) n (Nat.le_refl n)
  rw [Nat.sub_self] at h
  exact gM_le (mbm hL hK) h
section ACM
variable {K : Nat → Int32} {k i fl : Nat} {y : Int32}
theorem ad_p (h : (fl = 1 ∧ acDm K k y i) ∨ (fl = 0 ∧ ¬ acDm K k y i)) (h0 : 0 < fl) : acDm K k y (i + 1) := by
  rcases h with ⟨-, h | ⟨c, a, b⟩⟩ | ⟨h, -⟩
  · exact Or.inl h
  · exact Or.inr ⟨c, by omega, b⟩
  · omega
theorem ad_n (h : (fl = 1 ∧ acDm K k y i) ∨ (fl = 0 ∧ ¬ acDm K k y i)) (h0 : fl = 0) (hK : ¬ K i = y) : ¬ acDm K k y (i + 1) := by
  rcases h with ⟨h, -⟩ | ⟨-, h⟩
  · omega
  · rintro (q | ⟨c, a, b⟩)
    · exact h (Or.inl q)
    · by_cases e : c = i
      · rw [e] at b; exact hK b
      · exact h (Or.inr ⟨c, by omega, b⟩)
theorem ad_q (h : (fl = 1 ∧ acDm K k y i) ∨ (fl = 0 ∧ ¬ acDm K k y i)) (hi : i = k) (h0 : 0 < fl) : acDm K k y k := by
  subst hi
  rcases h with ⟨-, h⟩ | ⟨h, -⟩
  · exact h
  · omega
theorem ad_r (h : (fl = 1 ∧ acDm K k y i) ∨ (fl = 0 ∧ ¬ acDm K k y i)) (hi : i = k) (h0 : fl = 0) : ¬ acDm K k y k := by
  subst hi
  rcases h with ⟨h, -⟩ | ⟨-, h⟩
  · omega
  · exact h
theorem ad_4 {x1 x2 x3 x4 : Int32} (h : ¬ acBad x1 x2 x3 x4) (h3 : x3 = -1) : x4 = -1 := Classical.byContradiction fun z => h (Or.inr (Or.inr ⟨h3, z⟩))
variable {K1 : Nat → Int32} {L1 Lm : Nat → Nat} {m2 n : Nat} {t : Nat → Nat} {x : Int32}
theorem bn_L (hL : ∀ c, c < k → 2 ≤ Lm c ∧ Lm c ≤ 4) (h : ∀ c, c < k → K1 c = K c ∧ L1 c = Lm c) (hm : 2 ≤ m2 ∧ m2 ≤ 4) : ∀ c, c < k + 1 → 2 ≤ updN L1 k m2 c ∧ updN L1 k m2 c ≤ 4 := by
  intro c hc
  by_cases e : c = k
  · rw [e, updN_s]; exact hm
  · rw [updN_n _ e, (h c (by omega)).2]; exact hL c (by omega)
theorem bn_K (hK : ∀ c, c < k → ¬ K c = -1) (h : ∀ c, c < k → K1 c = K c ∧ L1 c = Lm c) (hx : ¬ x = -1) : ∀ c, c < k + 1 → ¬ upd K1 k x c = -1 := by
  intro c hc
  by_cases e : c = k
  · rw [e, pk_us]; exact hx
  · rw [pk_un e, (h c (by omega)).1]; exact hK c (by omega)
theorem bn_e (h : ∀ c, c < k → K1 c = K c ∧ L1 c = Lm c) : ∀ c, c < k → upd K1 k x c = K c ∧ updN L1 k m2 c = Lm c := fun c hc => by
  have e : c ≠ k := by omega
  rw [pk_un e, updN_n _ e]
  exact h c hc
theorem bn_g {i : Nat} (h : ∀ c, c < k → K1 c = K c ∧ L1 c = Lm c) : gM t n (upd K1 k (kyA t n i m2)) (updN L1 k m2) (k + 1) (-1) = nM t n K Lm k m2 i := by
  unfold nM
  refine gM_c (fun c hc => ?_)
  by_cases e : c = k
  · rw [e, pk_us, pk_us, updN_s, updN_s]; exact ⟨rfl, rfl⟩
  · rw [pk_un e, pk_un e, updN_n _ e, updN_n _ e]; exact h c (by omega)
end ACM
