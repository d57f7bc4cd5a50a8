/-! how a message is parted: one word's choice, and what the rows hold from a word on -/
noncomputable def zif {α : Type} (P : Prop) (a b : α) : α := @ite _ P (Classical.propDecidable P) a b
theorem zif_t {α : Type} {P : Prop} {a b : α} (h : P) : zif P a b = a := by unfold zif; exact if_pos h
theorem zif_f {α : Type} {P : Prop} {a b : α} (h : ¬ P) : zif P a b = b := by unfold zif; exact if_neg h
def tib (F lf : Nat → Nat) (w m : Nat) : Prop := F (w + m) + 1 < F w ∨ (F (w + m) + 1 = F w ∧ lf w < m)
def stp (F : Nat → Nat) (w m : Nat) (code : Int32) (x : Nat × Nat × Int32) : Nat × Nat × Int32 := if F (w + m) + 1 < x.1 ∨ (F (w + m) + 1 = x.1 ∧ x.2.1 < m) then (F (w + m) + 1, m, code) else x
noncomputable def cdo (mt : Nat → Nat → Prop) (Lf F : Nat → Nat) (w : Nat) : Nat → Nat × Nat × Int32
  | 0 => (F (w + 1) + 1, 1, -1)
  | c + 1 => zif (mt c w) (stp F w (Lf c) (nI c) (cdo mt Lf F w c)) (cdo mt Lf F w c)
noncomputable def res (mt : Nat → Nat → Prop) (Lf : Nat → Nat) (k : Nat) (mn : Nat → Prop) (nl : Nat) (F : Nat → Nat) (w : Nat) : Nat × Nat × Int32 := zif (mn w) (stp F w nl (nI 8) (cdo mt Lf F w k)) (cdo mt Lf F w k)
def Bd (n w : Nat) (F : Nat → Nat) (x : Nat × Nat × Int32) : Prop := x.1 ≤ F (w + 1) + 1 ∧ 1 ≤ x.2.1 ∧ w + x.2.1 ≤ n ∧ x.2.1 ≤ 4
theorem stp_b {n w m : Nat} {F : Nat → Nat} {code : Int32} {x : Nat × Nat × Int32} (h : Bd n w F x) (hm : 1 ≤ m ∧ m ≤ 4 ∧ w + m ≤ n) : Bd n w F (stp F w m code x) := by
  unfold stp
  by_cases q : F (w + m) + 1 < x.1 ∨ (F (w + m) + 1 = x.1 ∧ x.2.1 < m)
  · rw [if_pos q]
    obtain ⟨h1, h2, h3, h4⟩ := h
    refine ⟨?_, hm.1, hm.2.2, hm.2.1⟩
    show F (w + m) + 1 ≤ F (w + 1) + 1
    rcases q with q | q
    · omega
    · omega
  · rw [if_neg q]; exact h
/-- what matches is in the message -/
def MB (mt : Nat → Nat → Prop) (Lf : Nat → Nat) (k : Nat) (mn : Nat → Prop) (nl n : Nat) : Prop := (∀ j, j < n → ∀ c, c < k → mt c j → 1 ≤ Lf c ∧ Lf c ≤ 4 ∧ j + Lf c ≤ n) ∧ ∀ j, j < n → mn j → 1 ≤ nl ∧ nl ≤ 4 ∧ j + nl ≤ n
theorem cdo_b {mt : Nat → Nat → Prop} {Lf F : Nat → Nat} {k nl n w : Nat} {mn : Nat → Prop} (hM : MB mt Lf k mn nl n) (hw : w < n) : ∀ c, c ≤ k → Bd n w F (cdo mt Lf F w c) := by
  intro c
  induction c with
  | zero => intro _; exact ⟨Nat.le_refl _, Nat.le_refl _, hw, by show 1 ≤ 4; decide⟩
  | succ c ih =>
    intro hc
    unfold cdo
    by_cases q : mt c w
    · rw [zif_t q]; exact stp_b (ih (by omega)) (hM.1 w hw c (by omega) q)
    · rw [zif_f q]; exact ih (by omega)
theorem res_b {mt : Nat → Nat → Prop} {Lf F : Nat → Nat} {k nl n w : Nat} {mn : Nat → Prop} (hM : MB mt Lf k mn nl n) (hw : w < n) : Bd n w F (res mt Lf k mn nl F w) := by
  unfold res
  by_cases q : mn w
  · rw [zif_t q]; exact stp_b (cdo_b hM hw k (Nat.le_refl k)) (hM.2 w hw q)
  · rw [zif_f q]; exact cdo_b hM hw k (Nat.le_refl k)
theorem stp_c {F G : Nat → Nat} {w m : Nat} {code : Int32} {x : Nat × Nat × Int32} (h : F (w + m) = G (w + m)) : stp F w m code x = stp G w m code x := by unfold stp; rw [h]
theorem cdo_c {mt : Nat → Nat → Prop} {Lf F G : Nat → Nat} {k nl n w : Nat} {mn : Nat → Prop} (hM : MB mt Lf k mn nl n) (hw : w < n) (h : ∀ j, w < j → F j = G j) : ∀ c, c ≤ k → cdo mt Lf F w c = cdo mt Lf G w c := by
  intro c
  induction c with
  | zero => intro _; unfold cdo; rw [h (w + 1) (by omega)]
  | succ c ih =>
    intro hc
    unfold cdo
    rw [ih (by omega)]
    by_cases q : mt c w
    · rw [zif_t q, zif_t q]
      have := hM.1 w hw c (by omega) q
      exact stp_c (h _ (by omega))
    · rw [zif_f q, zif_f q]
theorem res_c {mt : Nat → Nat → Prop} {Lf F G : Nat → Nat} {k nl n w : Nat} {mn : Nat → Prop} (hM : MB mt Lf k mn nl n) (hw : w < n) (h : ∀ j, w < j → F j = G j) : res mt Lf k mn nl F w = res mt Lf k mn nl G w := by
  unfold res
  rw [cdo_c hM hw h k (Nat.le_refl k)]
  by_cases q : mn w
  · rw [zif_t q, zif_t q]
    have := hM.2 w hw q
    exact stp_c (h _ (by omega))
  · rw [zif_f q, zif_f q]
def InnI (mt : Nat → Nat → Prop) (Lf F0 lf0 : Nat → Nat) (C0 : Nat → Int32) (w c : Nat) (f1 lf1 : Nat → Nat) (C1 : Nat → Int32) : Prop := (∀ j, j ≠ w → f1 j = F0 j ∧ lf1 j = lf0 j ∧ C1 j = C0 j) ∧ (f1 w, lf1 w, C1 w) = cdo mt Lf F0 w c
theorem inn_0 {mt : Nat → Nat → Prop} {Lf F0 lf0 : Nat → Nat} {C0 : Nat → Int32} {w : Nat} : InnI mt Lf F0 lf0 C0 w 0 (updN F0 w (F0 (w + 1) + 1)) (updN lf0 w 1) (upd C0 w (-1)) :=
  ⟨fun j hj => ⟨updN_n _ hj, updN_n _ hj, pk_un hj⟩, by rw [updN_s, updN_s, pk_us]; rfl⟩
theorem inn_skip {mt : Nat → Nat → Prop} {Lf F0 lf0 f1 lf1 : Nat → Nat} {C0 C1 : Nat → Int32} {w c : Nat} (h : InnI mt Lf F0 lf0 C0 w c f1 lf1 C1) (hm : ¬ mt c w) : InnI mt Lf F0 lf0 C0 w (c + 1) f1 lf1 C1 :=
  ⟨h.1, by rw [h.2]; unfold cdo; rw [zif_f hm]; cases c <;> rfl⟩
/-- behind takeIfBetter -/
def Tk (f1 lf1 : Nat → Nat) (C1 : Nat → Int32) (w m : Nat) (code : Int32) (f2 lf2 : Nat → Nat) (C2 : Nat → Int32) : Prop :=
  (tib f1 lf1 w m ∧ f2 = updN f1 w (f1 (w + m) + 1) ∧ lf2 = updN lf1 w m ∧ C2 = upd C1 w code) ∨ (¬ tib f1 lf1 w m ∧ f2 = f1 ∧ lf2 = lf1 ∧ C2 = C1)
theorem tk_stp {F0 lf0 f1 lf1 f2 lf2 : Nat → Nat} {C0 C1 C2 : Nat → Int32} {w m : Nat} {code : Int32} {x : Nat × Nat × Int32} (h : ∀ j, j ≠ w → f1 j = F0 j ∧ lf1 j = lf0 j ∧ C1 j = C0 j) (hx : (f1 w, lf1 w, C1 w) = x) (hm : 1 ≤ m) (ht : Tk f1 lf1 C1 w m code f2 lf2 C2) :
    (∀ j, j ≠ w → f2 j = F0 j ∧ lf2 j = lf0 j ∧ C2 j = C0 j) ∧ (f2 w, lf2 w, C2 w) = stp F0 w m code x := by
  have h0 := (h (w + m) (by omega)).1
  subst hx
  unfold stp
  rcases ht with ⟨q, rfl, rfl, rfl⟩ | ⟨q, rfl, rfl, rfl⟩
  · refine ⟨fun j hj => by rw [updN_n _ hj, updN_n _ hj, pk_un hj]; exact h j hj, ?_⟩
    rw [updN_s, updN_s, pk_us, ← h0]
    exact (if_pos q).symm
  · refine ⟨h, ?_⟩
    rw [← h0]
    exact (if_neg q).symm
theorem inn_take {mt : Nat → Nat → Prop} {Lf F0 lf0 f1 lf1 f2 lf2 : Nat → Nat} {C0 C1 C2 : Nat → Int32} {w c : Nat} (h : InnI mt Lf F0 lf0 C0 w c f1 lf1 C1) (hm : mt c w) (h1 : 1 ≤ Lf c) (ht : Tk f1 lf1 C1 w (Lf c) (nI c) f2 lf2 C2) : InnI mt Lf F0 lf0 C0 w (c + 1) f2 lf2 C2 := by
  obtain ⟨a, b⟩ := tk_stp h.1 h.2 h1 ht
  refine ⟨a, ?_⟩
  rw [b]
  conv => rhs; unfold cdo
  rw [zif_t hm]
def OutI (mt : Nat → Nat → Prop) (Lf : Nat → Nat) (k : Nat) (mn : Nat → Prop) (nl n : Nat) (F lf : Nat → Nat) (C : Nat → Int32) (w : Nat) : Prop := F n = 0 ∧ (∀ j, w ≤ j → j < n → (F j, lf j, C j) = res mt Lf k mn nl F j) ∧ (∀ j, w ≤ j → j ≤ n → F j ≤ n - j) ∧ ∀ j, w ≤ j → j < n → 1 ≤ lf j ∧ j + lf j ≤ n ∧ lf j ≤ 4
theorem out_0 {mt : Nat → Nat → Prop} {Lf : Nat → Nat} {k : Nat} {mn : Nat → Prop} {nl n : Nat} {F lf : Nat → Nat} {C : Nat → Int32} : OutI mt Lf k mn nl n (updN F n 0) lf C n :=
  ⟨updN_s _ _ _, fun j h1 h2 => by omega, fun j h1 h2 => by rw [show j = n by omega, updN_s]; omega, fun j h1 h2 => by omega⟩
theorem out_step {mt : Nat → Nat → Prop} {Lf : Nat → Nat} {k : Nat} {mn : Nat → Prop} {nl n : Nat} {F lf f1 lf1 : Nat → Nat} {C C1 : Nat → Int32} {w : Nat} (hM : MB mt Lf k mn nl n) (hw : w < n) (h : OutI mt Lf k mn nl n F lf C (w + 1))
    (ho : ∀ j, j ≠ w → f1 j = F j ∧ lf1 j = lf j ∧ C1 j = C j) (hr : (f1 w, lf1 w, C1 w) = res mt Lf k mn nl F w) : OutI mt Lf k mn nl n f1 lf1 C1 w := by
  obtain ⟨h1, h2, h3, h4⟩ := h
  have hb : Bd n w F (res mt Lf k mn nl F w) := res_b hM hw
  rw [← hr] at hb
  obtain ⟨b1, b2, b3, b4⟩ := hb
  dsimp only at b1 b2 b3 b4
  refine ⟨by rw [(ho n (by omega)).1]; exact h1, fun j hj hn => ?_, fun j hj hn => ?_, fun j hj hn => ?_⟩
  · have hc : res mt Lf k mn nl f1 j = res mt Lf k mn nl F j := res_c hM hn (fun i hi => (ho i (by omega)).1)
    rw [hc]
    by_cases e : j = w
    · subst e; exact hr
    · obtain ⟨a1, a2, a3⟩ := ho j e
      rw [a1, a2, a3]
      exact h2 j (by omega) hn
  · by_cases e : j = w
    · subst e
      have := h3 (j + 1) (by omega) (by omega)
      omega
    · rw [(ho j e).1]; exact h3 j (by omega) hn
  · by_cases e : j = w
    · subst e; exact ⟨b2, b3, b4⟩
    · rw [(ho j e).2.1]; exact h4 j (by omega) hn
theorem out_cdo {mt : Nat → Nat → Prop} {Lf : Nat → Nat} {k : Nat} {mn : Nat → Prop} {nl n : Nat} {F lf f1 lf1 : Nat → Nat} {C C1 : Nat → Int32} {w : Nat} (hM : MB mt Lf k mn nl n) (hw : w < n) (h : OutI mt Lf k mn nl n F lf C (w + 1)) (hi : InnI mt Lf F lf C w k f1 lf1 C1) (hn : ¬ mn w) : OutI mt Lf k mn nl n f1 lf1 C1 w :=
  out_step hM hw h hi.1 (by rw [hi.2]; unfold res; rw [zif_f hn])
theorem out_new {mt : Nat → Nat → Prop} {Lf : Nat → Nat} {k : Nat} {mn : Nat → Prop} {nl n : Nat} {F lf f1 lf1 f2 lf2 : Nat → Nat} {C C1 C2 : Nat → Int32} {w : Nat} (hM : MB mt Lf k mn nl n) (hw : w < n) (h : OutI mt Lf k mn nl n F lf C (w + 1)) (hi : InnI mt Lf F lf C w k f1 lf1 C1) (hn : mn w) (ht : Tk f1 lf1 C1 w nl (nI 8) f2 lf2 C2) : OutI mt Lf k mn nl n f2 lf2 C2 w := by
  obtain ⟨a, b⟩ := tk_stp hi.1 hi.2 (hM.2 w hw hn).1 ht
  refine out_step hM hw h a ?_
  rw [b]
  unfold res
  rw [zif_t hn]
/-- the numbers stay small while a word's choice is made -/
theorem inn_b {mt : Nat → Nat → Prop} {Lf : Nat → Nat} {k : Nat} {mn : Nat → Prop} {nl n : Nat} {F lf f1 lf1 : Nat → Nat} {C C1 : Nat → Int32} {w c : Nat} (hM : MB mt Lf k mn nl n) (hw : w < n) (hn : n ≤ 24) (hc : c ≤ k) (h : OutI mt Lf k mn nl n F lf C (w + 1)) (hi : InnI mt Lf F lf C w c f1 lf1 C1) : f1 w ≤ 25 ∧ lf1 w ≤ 4 ∧ ∀ m, 1 ≤ m → w + m ≤ n → f1 (w + m) ≤ 24 := by
  have hb : Bd n w F (cdo mt Lf F w c) := cdo_b hM hw c hc
  rw [← hi.2] at hb
  obtain ⟨b1, b2, b3, b4⟩ := hb
  dsimp only at b1 b2 b3 b4
  have h3 := h.2.2.1 (w + 1) (by omega) (by omega)
  refine ⟨by omega, b4, fun m hm hmn => ?_⟩
  rw [(hi.1 (w + m) (by omega)).1]
  have := h.2.2.1 (w + m) (by omega) hmn
  omega
def posN (lf : Nat → Nat) : Nat → Nat
  | 0 => 0
  | g + 1 => posN lf g + lf (posN lf g)
/-- how many groups, and where each begins -/
def StI (lf : Nat → Nat) (n : Nat) (ps : Nat → Nat) (cnt : Nat) : Prop := (∀ g, g < cnt → ps g = posN lf g ∧ posN lf g < n) ∧ posN lf cnt = n ∧ cnt ≤ n
/-- a code's words stand there -/
def mtC (t : Nat → Nat) (n : Nat) (T : Nat → Int32) (Lf : Nat → Nat) (wo : Int32) (c w : Nat) : Prop := ¬ nI c = wo ∧ w + Lf c ≤ n ∧ ∀ p, p < Lf c → nI (t (w + p)) = T (c * 4 + p)
def mnC (t : Nat → Nat) (n ns nl : Nat) (w : Nat) : Prop := 0 < nl ∧ w + nl ≤ n ∧ ∀ p, p < nl → nI (t (ns + p)) = nI (t (w + p))
theorem mb_C {t : Nat → Nat} {n : Nat} {T : Nat → Int32} {Lf : Nat → Nat} {wo : Int32} {k ns nl : Nat} (hL : ∀ c, c < k → 2 ≤ Lf c ∧ Lf c ≤ 4) (hnew : nl = 0 ∨ (2 ≤ nl ∧ nl ≤ 4 ∧ ns + nl ≤ n)) : MB (mtC t n T Lf wo) Lf k (mnC t n ns nl) nl n :=
  ⟨fun j _ c hc h => ⟨by have := hL c hc; omega, (hL c hc).2, h.2.1⟩, fun j _ h => ⟨h.1, by have := h.1; omega, h.2.1⟩⟩
/-- the class's parting of a message -/
def PartC (t : Nat → Nat) (n : Nat) (T : Nat → Int32) (Lf : Nat → Nat) (k : Nat) (wo : Int32) (ns nl : Nat) (f lf : Nat → Nat) (C : Nat → Int32) (ps : Nat → Nat) (cnt : Nat) : Prop :=
  OutI (mtC t n T Lf wo) Lf k (mnC t n ns nl) nl n f lf C 0 ∧ StI lf n ps cnt
