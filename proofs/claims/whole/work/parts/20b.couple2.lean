/-! a new code, a useless one, the digest; what the calls do to the two books -/
theorem stp_1 {F : Nat → Nat} {w m : Nat} {code : Int32} {x : Nat × Nat × Int32} (h : x.1 = F (w + x.2.1) + 1) : (stp F w m code x).1 = F (w + (stp F w m code x).2.1) + 1 := by
  unfold stp
  split
  · rfl
  · exact h
theorem cdo_1 {mt : Nat → Nat → Prop} {Lf F : Nat → Nat} {w : Nat} : ∀ c, (cdo mt Lf F w c).1 = F (w + (cdo mt Lf F w c).2.1) + 1 := by
  intro c
  induction c with
  | zero => rfl
  | succ c ih =>
    unfold cdo
    by_cases q : mt c w
    · rw [zif_t q]; exact stp_1 ih
    · rw [zif_f q]; exact ih
theorem res_1 {mt : Nat → Nat → Prop} {Lf F : Nat → Nat} {k nl w : Nat} {mn : Nat → Prop} : (res mt Lf k mn nl F w).1 = F (w + (res mt Lf k mn nl F w).2.1) + 1 := by
  unfold res
  by_cases q : mn w
  · rw [zif_t q]; exact stp_1 (cdo_1 k)
  · rw [zif_f q]; exact cdo_1 k
theorem pc_g {t : Nat → Nat} {n : Nat} {T : Nat → Int32} {Lf : Nat → Nat} {k : Nat} {wo : Int32} {ns nl : Nat} {f lf : Nat → Nat} {C : Nat → Int32} {ps : Nat → Nat} {cnt : Nat} (h : PartC t n T Lf k wo ns nl f lf C ps cnt) : f 0 = cnt := by
  have h1 := pos_f (lf := lf) (F := f) (n := n) (fun j hj => by
    have h2 := h.1.2.1 j (Nat.zero_le _) hj
    have h3 := res_1 (mt := mtC t n T Lf wo) (Lf := Lf) (k := k) (mn := mnC t n ns nl) (nl := nl) (F := f) (w := j)
    rw [← h2] at h3
    exact h3) cnt (fun j hj => (h.2.1 j hj).2)
  rw [h.2.2.1, h.1.1] at h1
  exact h1
section NEW
variable {t : Nat → Nat} {n : Nat} {T : Nat → Int32} {Lf : Nat → Nat} {K : Nat → Int32} {Lm : Nat → Nat} {k : Nat}
theorem nn_mt (ht : ∀ j, j < n → t j < 10) {s m : Nat} (hm : 2 ≤ m ∧ m ≤ 4) (hs : s + m ≤ n) (hk : k ≤ 8) {j : Nat} : mtM t n (upd K k (kyA t n s m)) (updN Lm k m) (-1) k j ↔ mnC t n s m j := by
  unfold mtM mnC
  rw [updN_s, pk_us]
  have ks := ky_le (w := s) ht hm.2 hs
  constructor
  · rintro ⟨-, q⟩
    unfold kyA at q
    rw [if_neg (by omega : ¬ n < s + m)] at q
    by_cases z : n < j + m
    · rw [if_pos z] at q
      exact absurd q.symm (nI_m1 (by omega))
    · rw [if_neg z] at q
      have kj := ky_le (w := j) ht hm.2 (by omega)
      have e := (nI_eq (by omega) (by omega)).mp q
      have hd := ky_inj _ (fun p hp => ht _ (by omega)) (fun p hp => ht _ (by omega)) e
      exact ⟨by omega, by omega, fun p hp => by rw [hd p hp]⟩
  · rintro ⟨q1, q2, q3⟩
    refine ⟨nI_m1 (by omega), ?_⟩
    unfold kyA
    rw [if_neg (by omega), if_neg (by omega)]
    congr 1
    refine ky_c _ (fun p hp => ?_)
    have a1 := ht (s + p) (by omega)
    have a2 := ht (j + p) (by omega)
    exact ((nI_eq (by omega) (by omega)).mp (q3 p hp)).symm
theorem nn_eq (ht : ∀ j, j < n → t j < 10) (h : CR T Lf K Lm k) (hd : KD K k) (hk : k ≤ 8) {s m : Nat} (hm : 2 ≤ m ∧ m ≤ 4) (hs : s + m ≤ n) {f lf : Nat → Nat} {C : Nat → Int32} {ps : Nat → Nat} {g : Nat} (hp : PartC t n T Lf k (-1) s m f lf C ps g) : g = nM t n K Lm k m s := by
  have hL' := bn_L (m2 := m) (K1 := K) (L1 := Lm) (cr_Lm h) (fun _ _ => ⟨rfl, rfl⟩) hm
  have hK' := bn_K (x := kyA t n s m) (K1 := K) (L1 := Lm) (cr_K h) (fun _ _ => ⟨rfl, rfl⟩) (kyA_n ht hm.2 hs)
  have hM' := mbm (t := t) (n := n) (bu := -1) hL' hK'
  obtain ⟨F', lf', C', ho⟩ := om_ex hM' n (Nat.le_refl n)
  rw [Nat.sub_self] at ho
  have e0 : F' 0 = nM t n K Lm k m s := gM_eq hM' ho
  rw [← e0, ← pc_g hp]
  have hMk : MBm (mtM t n (upd K k (kyA t n s m)) (updN Lm k m) (-1)) (updN Lm k m) k n := fun j hj c hc q => hM' j hj c (by omega) q
  have hlow : ∀ c w, c < k → (mtM t n (upd K k (kyA t n s m)) (updN Lm k m) (-1) c w ↔ mtM t n K Lm (-1) c w) ∧ updN Lm k m c = Lm c := fun c w hc => by
    have e : c ≠ k := by omega
    unfold mtM
    rw [pk_un e, updN_n _ e]
    exact ⟨Iff.rfl, rfl⟩
  have hDk : Dst (mtM t n (upd K k (kyA t n s m)) (updN Lm k m) (-1)) (updN Lm k m) k n := by
    intro w hw a b hab hb h1 h2
    rw [(hlow a w (by omega)).2, (hlow b w hb).2]
    exact cr_dst (n := n) (wo := -1) h hd w hw a b hab hb ((hlow a w (by omega)).1.mp h1) ((hlow b w hb).1.mp h2)
  have key : ∀ i j, j ≤ n → n - j ≤ i → f j = F' j := by
    intro i
    induction i with
    | zero => intro j h1 h2; rw [show j = n by omega, hp.1.1, ho.1]
    | succ i ih =>
      intro j h1 h2
      by_cases e : j = n
      · rw [e, hp.1.1, ho.1]
      · have hj : j < n := by omega
        have e1 := congrArg Prod.fst (hp.1.2.1 j (Nat.zero_le _) hj)
        have e2 := congrArg Prod.fst (ho.2.1 j (Nat.zero_le _) hj)
        dsimp only at e1 e2
        rw [e1, e2]
        have hx : cdoM (mtM t n (upd K k (kyA t n s m)) (updN Lm k m) (-1)) (updN Lm k m) F' j k = cdo (mtC t n T Lf (-1)) Lf f j k := by
          rw [cdoM_cn hMk hj (fun u hu hun => (ih u hun (by omega)).symm) k (Nat.le_refl k), cdoM_eq hMk hDk hj k (Nat.le_refl k)]
          exact cdo_m k (fun c hc => ⟨(hlow c j hc).1.trans (cr_mt ht h hc), (hlow c j hc).2.trans (h c hc).2.2.2⟩)
        unfold res
        conv => rhs; unfold cdoM
        rw [hx]
        by_cases q : mnC t n s m j
        · rw [zif_t q, zif_t ((nn_mt ht hm hs hk).mpr q), updN_s]
          have hf := ih (j + m) q.2.1 (by omega)
          unfold stp stpM
          rw [← hf]
          split <;> split <;> first | rfl | (dsimp only; omega)
        · rw [zif_f q, zif_f (fun z => q ((nn_mt ht hm hs hk).mp z))]
  exact key n 0 (Nat.zero_le _) (by omega)
theorem bs_bm (ht : ∀ j, j < n → t j < 10) (h : CR T Lf K Lm k) (hd : KD K k) (hk : k ≤ 8) {m : Nat} (hm : 2 ≤ m ∧ m ≤ 4) {r : Int32} (q : BS t n T Lf k m r) : bmR t n K Lm k m r := by
  rcases q with ⟨q1, q2⟩ | ⟨s, fw, q1, q2, ⟨f, lf, C, ps, g, q3, rfl⟩, q4, q5⟩
  · exact Or.inl ⟨q1, q2⟩
  · have e := nn_eq ht h hd hk hm q1 q3
    refine Or.inr ⟨s, q1, q2, fun j hj => ?_, fun j h1 h2 => ?_⟩
    · obtain ⟨g', ⟨f', lf', C', ps', g2, a1, rfl⟩, a2⟩ := q4 j hj
      rw [← nn_eq ht h hd hk hm (by omega) a1, ← e]; exact a2
    · obtain ⟨g', ⟨f', lf', C', ps', g2, a1, rfl⟩, a2⟩ := q5 j h1 h2
      rw [← nn_eq ht h hd hk hm h2 a1, ← e]; exact a2
theorem bm_uq {m : Nat} {r r' : Int32} (q : bmR t n K Lm k m r) (q' : bmR t n K Lm k m r') : r = r' := by
  rcases q with ⟨a1, a2⟩ | ⟨s, a1, a2, a3, a4⟩
  · rcases q' with ⟨b1, b2⟩ | ⟨s', b1, b2, b3, b4⟩
    · rw [a2, b2]
    · omega
  · rcases q' with ⟨b1, b2⟩ | ⟨s', b1, b2, b3, b4⟩
    · omega
    · rcases Nat.lt_trichotomy s s' with z | z | z
      · have c1 := b3 s z
        have c2 := a4 s' z b1
        omega
      · rw [a2, b2, z]
      · have c1 := a3 s' z
        have c2 := b4 s z a1
        omega
theorem uc_ul (ht : ∀ j, j < n → t j < 10) (h : CR T Lf K Lm k) (hd : KD K k) (hk : k ≤ 8) {r : Int32} (q : UC t n T Lf k (gM t n K Lm k (-1)) r) : ulM t n K Lm k r := by
  have mono : ∀ c, c < k → gM t n K Lm k (-1) ≤ gM t n K Lm k (nI c) := by
    intro c hc
    have hM := mbm (t := t) (n := n) (bu := -1) (cr_Lm h) (cr_K h)
    have hM' := mbm (t := t) (n := n) (bu := nI c) (cr_Lm h) (cr_K h)
    obtain ⟨F, lf, C, ho⟩ := om_ex hM n (Nat.le_refl n)
    obtain ⟨F', lf', C', ho'⟩ := om_ex hM' n (Nat.le_refl n)
    rw [Nat.sub_self] at ho ho'
    rw [← gM_eq hM ho, ← gM_eq hM' ho']
    exact om_mono hM (fun c' w hc' z => ⟨nI_m1 (by omega), z.2⟩) ho ho' n 0 (Nat.zero_le _) (by omega)
  have at_ : ∀ (c : Nat) (P : Nat → Prop), Gn t n T Lf k (nI c) 0 0 P → P (gM t n K Lm k (nI c)) := by
    rintro c P ⟨f, lf, C, ps, g, a1, a2⟩
    rw [← cr_g ht h hd a1]; exact a2
  rcases q with ⟨c, a1, a2, a3, a4⟩ | ⟨a1, a2⟩
  · have b1 := at_ c _ a3
    have b2 := mono c a1
    try dsimp only at b1
    exact Or.inl ⟨c, a1, a2, by omega, fun j hj z => by have b3 := at_ j _ (a4 j hj); omega⟩
  · exact Or.inr ⟨a1, fun j hj z => by have b3 := at_ j _ (a2 j hj); omega⟩
theorem ul_uq {r r' : Int32} (q : ulM t n K Lm k r) (q' : ulM t n K Lm k r') : r = r' := by
  rcases q with ⟨c, a1, a2, a3, a4⟩ | ⟨a1, a2⟩
  · rcases q' with ⟨c', b1, b2, b3, b4⟩ | ⟨b1, b2⟩
    · rcases Nat.lt_trichotomy c c' with z | z | z
      · exact absurd a3 (b4 c z)
      · rw [a2, b2, z]
      · exact absurd b3 (a4 c' z)
    · exact absurd a3 (b2 c a1)
  · rcases q' with ⟨c', b1, b2, b3, b4⟩ | ⟨b1, b2⟩
    · exact absurd b3 (a2 c' b1)
    · rw [a1, b1]
theorem dg_eq (ht : ∀ j, j < n → t j < 10) (h : CR T Lf K Lm k) (hd : KD K k) {f lf : Nat → Nat} {C : Nat → Int32} {ps : Nat → Nat} {cnt : Nat} (hp : PartC t n T Lf k (-1) 0 0 f lf C ps cnt) (q sg : Nat) (rp lo ea uc u2 u3 u4 : Int32) : dgE t n Lf k C ps cnt q sg rp lo ea uc u2 u3 u4 = dgM t n K Lm k q sg rp lo ea uc u2 u3 u4 := by
  have e1 := cr_g ht h hd hp
  have e2 := cr_ct ht h hd hp
  unfold dgE dgM dlM
  rw [e2, ← e1]
  have a1 : ∀ d, fL (dcN Lf C ps cnt) d k = fL (dcM t n K Lm k) d k := fun d => fL_c k d (fun c hc d => by
    unfold dcN dcM
    rw [cr_us ht h hd hp, (h c hc).2.2.2])
  rw [a1]
  refine fL_c cnt _ (fun j hj d => ?_)
  unfold dpN dpM
  rw [(cr_p ht h hd hp hj).1, ← (cr_p ht h hd hp hj).1, (cr_p ht h hd hp hj).2, (cr_p ht h hd hp hj).1]
/-- a code more -/
theorem cr_add (h : CR T Lf K Lm k) {x1 x2 x3 x4 : Int32} (hb : ¬ acBad x1 x2 x3 x4) : CR (acT T k x1 x2 x3 x4) (updN Lf k (clen x3 x4)) (upd K k (acK x1 x2 x3 x4)) (updN Lm k (clen x3 x4)) (k + 1) := by
  intro c hc
  by_cases e : c = k
  · subst e
    have e0 : acT T c x1 x2 x3 x4 (c * 4 + 0) = x1 := by
      unfold acT
      rw [pk_un (by omega), pk_un (by omega), pk_un (by omega)]; exact pk_us
    have e1 : acT T c x1 x2 x3 x4 (c * 4 + 1) = x2 := by
      unfold acT
      rw [pk_un (by omega), pk_un (by omega), pk_us]
    have e2 : acT T c x1 x2 x3 x4 (c * 4 + 2) = x3 := by
      unfold acT
      rw [pk_un (by omega), pk_us]
    have e3 : acT T c x1 x2 x3 x4 (c * 4 + 3) = x4 := by
      unfold acT
      rw [pk_us]
    rw [e0, e1, e2, e3, updN_s, updN_s, pk_us]
    exact ⟨hb, rfl, rfl, rfl⟩
  · have hl : c < k := by omega
    have ep : ∀ p, p < 4 → acT T k x1 x2 x3 x4 (c * 4 + p) = T (c * 4 + p) := fun p hp => by
      unfold acT
      rw [pk_un (by omega), pk_un (by omega), pk_un (by omega), pk_un (by omega)]
    rw [ep 0 (by omega), ep 1 (by omega), ep 2 (by omega), ep 3 (by omega), updN_n _ e, updN_n _ e, pk_un e]
    exact h c hl
theorem kd_add (hd : KD K k) {y : Int32} (hy : ¬ acDm K k y k) : KD (upd K k y) (k + 1) := by
  intro a b hab hb e
  by_cases eb : b = k
  · subst eb
    rw [pk_us, pk_un (by omega)] at e
    exact hy (Or.inr ⟨a, hab, e⟩)
  · rw [pk_un (by omega), pk_un eb] at e
    exact hd a b hab (by omega) e
theorem dup_iff (h : CR T Lf K Lm k) (hk : k ≤ 8) {x1 x2 x3 x4 : Int32} (hb : ¬ acBad x1 x2 x3 x4) : acDup T k x1 x2 x3 x4 ↔ acDm K k (acK x1 x2 x3 x4) k := by
  unfold acDup acDm
  constructor
  · rintro (q | ⟨c, hc, q1, q2, q3, q4⟩)
    · exact Or.inl (by omega)
    · exact Or.inr ⟨c, hc, by rw [(h c hc).2.2.1, q1, q2, q3, q4]⟩
  · rintro (q | ⟨c, hc, q⟩)
    · exact Or.inl (by omega)
    · rw [(h c hc).2.2.1] at q
      have e := ac_inj (X := fun p => T (c * 4 + p)) (Y := fun p => if p = 0 then x1 else if p = 1 then x2 else if p = 2 then x3 else x4) (h c hc).1 hb q
      exact Or.inr ⟨c, hc, e.1, e.2.1, e.2.2.1, e.2.2.2⟩
/-- a code fewer -/
theorem cr_drop (h : CR T Lf K Lm k) {j : Nat} (hj : j < k) {K2 : Nat → Int32} {Lm2 : Nat → Nat} (hK : ShI K K2 j (k - 1)) (hL : ShI Lm Lm2 j (k - 1)) : CR (dcT T k j) (dcL Lf k j) K2 Lm2 (k - 1) := by
  intro c hc
  rw [dcL_at Lf hc, hK.1 c hc, hL.1 c hc]
  by_cases e : c < j
  · have ep : ∀ p, p < 4 → dcT T k j (c * 4 + p) = T (c * 4 + p) := fun p hp => by
      unfold dcT
      rw [pk_cpy_out (Or.inl (by omega))]
    rw [ep 0 (by omega), ep 1 (by omega), ep 2 (by omega), ep 3 (by omega), if_pos e, if_pos e, if_pos e]
    exact h c (by omega)
  · have ep : ∀ p, p < 4 → dcT T k j (c * 4 + p) = T ((c + 1) * 4 + p) := fun p hp => by
      unfold dcT
      rw [pk_cpy_in (by omega) (by omega), show (j + 1) * 4 + (c * 4 + p - j * 4) = (c + 1) * 4 + p by omega]
    rw [ep 0 (by omega), ep 1 (by omega), ep 2 (by omega), ep 3 (by omega), if_neg e, if_neg e, if_neg e]
    exact h (c + 1) (by omega)
theorem kd_drop (hd : KD K k) {j : Nat} {K2 : Nat → Int32} (hK : ShI K K2 j (k - 1)) : KD K2 (k - 1) := by
  intro a b hab hb e
  rw [hK.1 a (by omega), hK.1 b hb] at e
  by_cases ea : a < j
  · rw [if_pos ea] at e
    by_cases eb : b < j
    · rw [if_pos eb] at e; exact hd a b hab (by omega) e
    · rw [if_neg eb] at e; exact hd a (b + 1) (by omega) (by omega) e
  · rw [if_neg ea, if_neg (by omega)] at e
    exact hd (a + 1) (b + 1) (by omega) (by omega) e
theorem cr_low {K2 : Nat → Int32} {Lm2 : Nat → Nat} (h : CR T Lf K Lm k) (hl : ∀ c, c < k → K2 c = K c ∧ Lm2 c = Lm c) : CR T Lf K2 Lm2 k := fun c hc => ⟨(h c hc).1, (h c hc).2.1, (hl c hc).1.trans (h c hc).2.2.1, (hl c hc).2.trans (h c hc).2.2.2⟩
theorem kd_low {K2 : Nat → Int32} {Lm2 : Nat → Nat} (hd : KD K k) (hl : ∀ c, c < k → K2 c = K c ∧ Lm2 c = Lm c) : KD K2 k := fun a b hab hb e => hd a b hab hb (by rw [← (hl a (by omega)).1, ← (hl b hb).1]; exact e)
end NEW
