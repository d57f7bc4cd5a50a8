/-! the model's digest, as numbers -/
theorem fL_c {f g : Nat → Int64 → Int64} : ∀ n d, (∀ j, j < n → ∀ d, f j d = g j d) → fL f d n = fL g d n := by
  intro n d
  induction n with
  | zero => intro _; rfl
  | succ n ih =>
    intro h
    show f n (fL f d n) = g n (fL g d n)
    rw [ih (fun j hj => h j (by omega)), h n (by omega)]
noncomputable def dcM (t : Nat → Nat) (n : Nat) (K : Nat → Int32) (Lm : Nat → Nat) (k c : Nat) (d : Int64) : Int64 := wn2 (wn2 d (nI (Lm c)).toInt64) (nI (usM t n K Lm k (nI c))).toInt64
noncomputable def dpM (t : Nat → Nat) (n : Nat) (K : Nat → Int32) (Lm : Nat → Nat) (k g : Nat) (d : Int64) : Int64 := wn2 (wn2 d (xM t n K Lm k g).toInt64) (nI (pM t n K Lm k g)).toInt64
noncomputable def dlM (t : Nat → Nat) (n : Nat) (K : Nat → Int32) (Lm : Nat → Nat) (k q sg : Nat) (rp lo ea uc u2 u3 u4 : Int32) : List Int32 :=
  [nI k, nI n, nI (gM t n K Lm k (-1)), nI (ctM t n K Lm k), nI (costN n (ctM t n K Lm k)), nI (costN n (sN (fun j => wc (t j)) n)) - nI (costN n (ctM t n K Lm k)), nI sg, rp, lo, ea, nI (utN q sg), nI (gfN q sg (gM t n K Lm k (-1))), nI (akN q sg (gM t n K Lm k (-1))), qwF sg (gM t n K Lm k (-1)) 9 1, uc, u2, u3, u4]
noncomputable def dgM (t : Nat → Nat) (n : Nat) (K : Nat → Int32) (Lm : Nat → Nat) (k q sg : Nat) (rp lo ea uc u2 u3 u4 : Int32) : Int64 :=
  fL (dpM t n K Lm k) (fL (dwN t) (fL (dcM t n K Lm k) (dgl (dlM t n K Lm k q sg rp lo ea uc u2 u3 u4) 2143) k) n) (gM t n K Lm k (-1))
section KL
variable {t : Nat → Nat} {n : Nat} {K K1 K2 : Nat → Int32} {Lm L1 L2 : Nat → Nat} {k : Nat}
theorem kl_L (hL : ∀ c, c < k → 2 ≤ Lm c ∧ Lm c ≤ 4) (h : ∀ c, c < k → K1 c = K c ∧ L1 c = Lm c) : ∀ c, c < k → 2 ≤ L1 c ∧ L1 c ≤ 4 := fun c hc => by rw [(h c hc).2]; exact hL c hc
theorem kl_K (hK : ∀ c, c < k → ¬ K c = -1) (h : ∀ c, c < k → K1 c = K c ∧ L1 c = Lm c) : ∀ c, c < k → ¬ K1 c = -1 := fun c hc => by rw [(h c hc).1]; exact hK c hc
theorem kl_t (h2 : ∀ c, c < k → K2 c = K1 c ∧ L2 c = L1 c) (h1 : ∀ c, c < k → K1 c = K c ∧ L1 c = Lm c) : ∀ c, c < k → K2 c = K c ∧ L2 c = Lm c := fun c hc => ⟨(h2 c hc).1.trans (h1 c hc).1, (h2 c hc).2.trans (h1 c hc).2⟩
theorem dp_eq {C : Nat → Int32} {F lf : Nat → Nat} (hL : ∀ c, c < k → 2 ≤ L1 c ∧ L1 c ≤ 4) (hK : ∀ c, c < k → ¬ K1 c = -1) (h : ∀ c, c < k → K1 c = K c ∧ L1 c = Lm c) (ho : OutM (mtM t n K1 L1 (-1)) L1 k n F lf C 0) {g : Nat} (hg : GI lf n g) (d : Int64) :
    fL (fun g d => wn2 (wn2 d (C (posN lf g)).toInt64) (nI (posN lf g)).toInt64) d g = fL (dpM t n K Lm k) d (gM t n K Lm k (-1)) := by
  have hM := mbm (t := t) (n := n) (bu := -1) hL hK
  have e1 : g = gM t n K Lm k (-1) := by
    rw [← gM_c h, ← gM_eq hM ho]
    exact (om_g ho hg).symm
  rw [← e1]
  refine fL_c g d (fun j hj d => ?_)
  show wn2 (wn2 d (C (posN lf j)).toInt64) (nI (posN lf j)).toInt64 = wn2 (wn2 d (xM t n K Lm k j).toInt64) (nI (pM t n K Lm k j)).toInt64
  rw [xM_eq hM ho (fun i hi => hg.1 i (by omega)), pM_eq hM ho j (fun i hi => hg.1 i (by omega)), xM_c h, pM_c h]
end KL
