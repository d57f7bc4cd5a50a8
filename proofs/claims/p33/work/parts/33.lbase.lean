/-! rows of the law's own methods; the law's state; numbers drawn from a cell -/
def blw (v : Int32) (m : Nat) : Nat := (v.toBitVec.toNat % 2 ^ 31) % m
theorem blw_lt (v : Int32) {m : Nat} (h : 0 < m) : blw v m < m := Nat.mod_lt _ h
theorem zDD_pick {A : Nat → Prop} {fx tl want : List Nat} (h : zDD A (fx ++ tl)) (is : List Nat) (hnd : va_nd is = true) (hw : is.map (fun i => fx[i]?) = want.map some) : zDD A (want ++ tl) := by
  have hlen : is.length = want.length := by have := congrArg List.length hw; simpa using this
  have hat : ∀ (j a : Nat), want[j]? = some a → ∃ i, is[j]? = some i ∧ fx[i]? = some a := by
    intro j a hj
    have h1 : (want.map some)[j]? = some (some a) := by rw [List.getElem?_map, hj]; rfl
    rw [← hw, List.getElem?_map] at h1
    cases hi : is[j]? with
    | none => rw [hi] at h1; cases h1
    | some i => rw [hi] at h1; exact ⟨i, rfl, Option.some.inj h1⟩
  have hL : ∀ (i a : Nat), fx[i]? = some a → (fx ++ tl)[i]? = some a := fun i a hi => by rw [List.getElem?_append_left (List.getElem?_eq_some_iff.mp hi).1]; exact hi
  have hR : ∀ (i a : Nat), tl[i]? = some a → (fx ++ tl)[fx.length + i]? = some a := fun i a hi => by rw [List.getElem?_append_right (Nat.le_add_right _ _), Nat.add_sub_cancel_left]; exact hi
  have hinj : ∀ (i j x : Nat), is[i]? = some x → is[j]? = some x → i = j := by
    clear hw hat hlen
    induction is with
    | nil => intro i j x hi; simp at hi
    | cons y ys ih =>
      simp only [va_nd, Bool.and_eq_true, decide_eq_true_eq] at hnd
      intro i j x hi hj
      cases i with
      | zero => cases j with
        | zero => rfl
        | succ j =>
          have e1 : y = x := Option.some.inj hi
          have e2 : ys[j]? = some x := hj
          exact absurd (List.mem_of_getElem? e2) (by rw [← e1]; exact hnd.1)
      | succ i => cases j with
        | zero =>
          have e1 : y = x := Option.some.inj hj
          have e2 : ys[i]? = some x := hi
          exact absurd (List.mem_of_getElem? e2) (by rw [← e1]; exact hnd.1)
        | succ j => rw [ih hnd.2 i j x hi hj]
  have hsp : ∀ (i a : Nat), (want ++ tl)[i]? = some a → (∃ x, is[i]? = some x ∧ fx[x]? = some a ∧ i < want.length) ∨ (tl[i - want.length]? = some a ∧ want.length ≤ i) := by
    intro i a hi
    by_cases hl : i < want.length
    · rw [List.getElem?_append_left hl] at hi
      obtain ⟨x, h1, h2⟩ := hat i a hi
      exact Or.inl ⟨x, h1, h2, hl⟩
    · rw [List.getElem?_append_right (by omega)] at hi
      exact Or.inr ⟨hi, by omega⟩
  refine ⟨fun i j a hi hj => ?_, fun a ha => ?_⟩
  · rcases hsp i a hi with ⟨x, h1, h2, h3⟩ | ⟨h1, h2⟩ <;> rcases hsp j a hj with ⟨y, g1, g2, g3⟩ | ⟨g1, g2⟩
    · have := h.1 x y a (hL x a h2) (hL y a g2)
      subst this
      exact hinj i j x h1 g1
    · have := h.1 x _ a (hL x a h2) (hR _ a g1)
      have := (List.getElem?_eq_some_iff.mp h2).1
      omega
    · have := h.1 _ y a (hR _ a h1) (hL y a g2)
      have := (List.getElem?_eq_some_iff.mp g2).1
      omega
    · have := h.1 _ _ a (hR _ a h1) (hR _ a g1)
      omega
  · obtain ⟨i, hi⟩ := List.getElem?_of_mem ha
    rcases hsp i a hi with ⟨x, h1, h2, h3⟩ | ⟨h1, h2⟩
    · exact h.2 a (List.mem_of_getElem? (hL x a h2))
    · exact h.2 a (List.mem_of_getElem? (hR _ a h1))
theorem zDD_by {A : Nat → Prop} {l l2 : List Nat} (h : zDD A l) (g : Nat → Nat) (hg : ∀ (i a : Nat), l2[i]? = some a → l[g i]? = some a) (hi : ∀ i j, i < l2.length → j < l2.length → g i = g j → i = j) : zDD A l2 := by
  refine ⟨fun i j a h1 h2 => ?_, fun a ha => ?_⟩
  · exact hi i j (List.getElem?_eq_some_iff.mp h1).1 (List.getElem?_eq_some_iff.mp h2).1 (h.1 _ _ a (hg i a h1) (hg j a h2))
  · obtain ⟨i, h1⟩ := List.getElem?_of_mem ha
    exact h.2 a (List.mem_of_getElem? (hg i a h1))
/-- a row more at the pool's end -/
theorem zDD_add {A : Nat → Prop} {want : List Nat} {cI : ClassId} {R Lf Lf2 : Nat → Nat} {T T2 : Nat → Int32} {k r : Nat} (h : zDD A (r :: (want ++ (rwW cI R Lf T k).map Prod.fst))) : zDD A (want ++ (rwW cI (updN R k r) Lf2 T2 (k + 1)).map Prod.fst) := by
  rw [rw_ads] at h ⊢
  have hl : ((List.range (k + 1)).map (updN R k r)) = (List.range k).map R ++ [r] := by
    rw [List.range_succ, List.map_append, List.map_cons, List.map_nil, updN_s]
    congr 1
    exact List.map_congr_left (fun i hi => updN_n _ (by have := List.mem_range.mp hi; omega))
  rw [hl, ← List.append_assoc]
  generalize hm : want ++ (List.range k).map R = m at h ⊢
  refine zDD_by h (fun i => if i < m.length then i + 1 else 0) (fun i a hi => ?_) (fun i j hi hj hij => ?_)
  · by_cases q : i < m.length
    · rw [if_pos q]
      rw [List.getElem?_append_left q] at hi
      exact hi
    · rw [if_neg q]
      rw [List.getElem?_append_right (by omega)] at hi
      have : i - m.length < 1 := (List.getElem?_eq_some_iff.mp hi).1
      rw [show i - m.length = 0 by omega] at hi
      exact hi
  · rw [List.length_append, List.length_singleton] at hi hj
    by_cases q1 : i < m.length <;> by_cases q2 : j < m.length
    · rw [if_pos q1, if_pos q2] at hij; omega
    · rw [if_pos q1, if_neg q2] at hij; omega
    · rw [if_neg q1, if_pos q2] at hij; omega
    · omega
/-- a row less -/
theorem zDD_drop {A : Nat → Prop} {want : List Nat} {cI : ClassId} {R Lf Lf2 : Nat → Nat} {T T2 : Nat → Int32} {k j : Nat} (hj : j < k) (h : zDD A (want ++ (rwW cI R Lf T k).map Prod.fst)) : zDD A (want ++ (rwW cI (dcR R j) Lf2 T2 (k - 1)).map Prod.fst) := by
  rw [rw_ads] at h ⊢
  refine zDD_by h (fun i => if i < want.length then i else if i - want.length < j then i else i + 1) (fun i a hi => ?_) (fun i i2 hi hi2 hij => ?_)
  · by_cases q : i < want.length
    · rw [if_pos q, List.getElem?_append_left q]
      rw [List.getElem?_append_left q] at hi
      exact hi
    · rw [if_neg q]
      rw [List.getElem?_append_right (by omega), List.getElem?_map] at hi
      have hr : i - want.length < k - 1 := by
        rcases Nat.lt_or_ge (i - want.length) (k - 1) with z | z
        · exact z
        · rw [List.getElem?_eq_none (by rw [List.length_range]; exact z)] at hi; cases hi
      rw [List.getElem?_range hr] at hi
      have hi' : dcR R j (i - want.length) = a := Option.some.inj hi
      unfold dcR at hi'
      by_cases z : i - want.length < j
      · rw [if_pos z] at hi' ⊢
        rw [List.getElem?_append_right (by omega), List.getElem?_map, List.getElem?_range (by omega)]
        exact congrArg some hi'
      · rw [if_neg z] at hi' ⊢
        rw [List.getElem?_append_right (by omega), List.getElem?_map, List.getElem?_range (by omega), show i + 1 - want.length = i - want.length + 1 by omega]
        exact congrArg some hi'
  · by_cases q1 : i < want.length <;> by_cases q2 : i2 < want.length
    · rw [if_pos q1, if_pos q2] at hij; exact hij
    · rw [if_pos q1, if_neg q2] at hij
      split at hij <;> omega
    · rw [if_neg q1, if_pos q2] at hij
      split at hij <;> omega
    · rw [if_neg q1, if_neg q2] at hij
      split at hij <;> split at hij <;> omega
section ZLB
variable {p : Program} {l : Launch} {e : Env} {R : Room} {s : State} {m : MethodId} {args : Array Value} {below : List Frame} {meth : Method} {c : Code} {H : Heap} {locs : List Loc} {cells slots : Nat} {Q : State → Prop}
variable {cc : ByteArray} {pc : Nat} {ls : Array Slot} {rest : List Value} {D : va_G} {A : Nat → Prop} {ws : va_W} {H0 : Heap} {cI : ClassId}
variable {y : MethodName} {bytes : ByteArray} {maxL nL n index : Nat} {ret : Option FieldType} {wsc : List Cond} {rmc : Room} {Ts : List Cond} {own C : String} {b : Nat} {As st : List Value} {w0 : va_W}
theorem z_muS {S : Type} {post : Option Value → S → Prop} {w1 : S → va_W} {ads : List Nat} (S0 : CallFix p m c cc nL s args Ts own) (hM : MU l y wsc rmc D cI w0 As post w1) (cw : CallB R s args own index y bytes maxL ret wsc rmc 0 0 n ∧ (Cond.static y).before args s = true) (hK : zK D cI s) (hP : va_P D vwCl ws H) (hD : zDD A ads) (hads : ws.map Prod.fst = ads) (hS : va_S A H0 H locs)
    (is : List Nat) (hnd : va_nd is = true) (his : is.map (fun i => ws[i]?) = w0.map some) (hw1 : ∀ u, (w1 u).map Prod.fst = w0.map Prod.fst)
    (hn : As.length = n) (hls : ls.size = nL) (hst : st = As.reverse ++ rest) (hcat : (rest.map fun v => v.category).sum ≤ 8) (hdg : decode cc pc = .ok (.invokestatic index, 3)) (hc : cells ≤ R.cells) (hs : slots ≤ R.slots)
    (kk : ∀ (v : Option Value) (u : S) (H1 : Heap) (locs1 : List Loc), post v u → va_P D vwCl (zput ws is (w1 u)) H1 → va_S A H0 H1 locs1 → W p l e R s m args below meth c H1 locs1 cells slots Q (F0 m (pc + 3) ls (v.toList ++ rest))) : W p l e R s m args below meth c H locs cells slots Q (F0 m pc ls st) := by
  subst hst
  have hDw := hD.to hads
  have hP0 : va_P D vwCl w0 H := by
    refine hP.sub is ?_
    have h1 := congrArg (List.filterMap id) his
    rw [List.filterMap_map, List.filterMap_map] at h1
    simpa using h1
  exact mu_call (va_runS S0 hM cw ⟨fun a U g mk q => ⟨q.1, q.2.1, q.2.2.1.call, q.2.2.2⟩, fun U hU hW => ⟨rfl, by rw [hU]; exact hP0, hK.warm hW, (hDw.sub is hnd his).weaken (fun _ _ _ _ => trivial)⟩⟩ rfl hn hls rfl (lv_room hcat) hdg ⟨hc, hs⟩) hP hD hads hS is hnd his hw1 kk
end ZLB
/-! the law's row of a code's words, as the class keeps it -/
def zx (g : Nat → Nat) (m p : Nat) : Int32 := if p < m then nI (g p) else -1
def rT (T : Nat → Int32) (k : Nat) (g : Nat → Nat) (m : Nat) : Nat → Int32 := acT T k (nI (g 0)) (nI (g 1)) (zx g m 2) (zx g m 3)
theorem zx_t {g : Nat → Nat} {m p : Nat} (h : p < m) : nI (g p) = zx g m p := (if_pos h).symm
theorem zx_f {g : Nat → Nat} {m p : Nat} (h : ¬ p < m) : (-1 : Int32) = zx g m p := (if_neg h).symm
theorem rT_at (T : Nat → Int32) (k : Nat) (g : Nat → Nat) {m : Nat} (hm : 2 ≤ m ∧ m ≤ 4) {p : Nat} (hp : p < 4) : rT T k g m (k * 4 + p) = zx g m p := by
  unfold rT acT
  rcases (by omega : p = 0 ∨ p = 1 ∨ p = 2 ∨ p = 3) with rfl | rfl | rfl | rfl
  · rw [pk_un (by omega), pk_un (by omega), pk_un (by omega)]
    rw [show k * 4 + 0 = k * 4 from rfl, pk_us]; exact zx_t (by omega)
  · rw [pk_un (by omega), pk_un (by omega), pk_us]; exact zx_t (by omega)
  · rw [pk_un (by omega), pk_us]
  · rw [pk_us]
theorem rT_old (T : Nat → Int32) {k i : Nat} (g : Nat → Nat) (m : Nat) {p : Nat} (hi : i < k) (hp : p < 4) : rT T k g m (i * 4 + p) = T (i * 4 + p) := by
  unfold rT acT
  rw [pk_un (by omega), pk_un (by omega), pk_un (by omega), pk_un (by omega)]
theorem clen_zx {g : Nat → Nat} {m : Nat} (hm : 2 ≤ m ∧ m ≤ 4) (hg : ∀ p, p < m → g p < 10) : clen (zx g m 2) (zx g m 3) = m := by
  unfold clen
  rcases (by omega : m = 2 ∨ m = 3 ∨ m = 4) with rfl | rfl | rfl
  · rw [← zx_f (by decide), ← zx_f (by decide), if_pos rfl, if_pos rfl]
  · rw [← zx_t (p := 2) (by decide), ← zx_f (p := 3) (by decide), if_pos rfl, if_neg (nI_m1 (by have := hg 2 (by decide); omega))]
  · rw [← zx_t (p := 3) (by decide), if_neg (nI_m1 (by have := hg 3 (by decide); omega))]
theorem add_nb {g : Nat → Nat} {m : Nat} (hm : 2 ≤ m ∧ m ≤ 4) (hg : ∀ p, p < m → g p < 10) : ¬ acBad (nI (g 0)) (nI (g 1)) (zx g m 2) (zx g m 3) := by
  have hz : ∀ p, isTN (zx g m p) := by
    intro p
    unfold zx
    by_cases h : p < m
    · rw [if_pos h]; exact Or.inr ⟨g p, hg p h, rfl⟩
    · rw [if_neg h]; exact Or.inl rfl
  rintro ((h | h) | (h | h) | ⟨h, h2⟩)
  · exact h ⟨_, hg 0 (by omega), rfl⟩
  · exact h ⟨_, hg 1 (by omega), rfl⟩
  · exact h (hz 2)
  · exact h (hz 3)
  · refine h2 (zx_f ?_).symm
    intro q
    rw [← zx_t (by omega)] at h
    exact nI_m1 (by have := hg 2 (by omega); omega) h
/-- what a code book is: words of a kind, nothing behind them, no two the same -/
def BK (T : Nat → Int32) (Lf : Nat → Nat) (k : Nat) : Prop := (∀ c, c < k → (∀ p, p < Lf c → ∃ x, x < 10 ∧ T (c * 4 + p) = nI x) ∧ ∀ p, Lf c ≤ p → p < 4 → T (c * 4 + p) = -1) ∧
  ∀ c c', c < k → c' < k → Lf c = Lf c' → (∀ p, p < Lf c → T (c * 4 + p) = T (c' * 4 + p)) → c = c'
theorem add_nd {T : Nat → Int32} {Lf g : Nat → Nat} {k m : Nat} (hB : BK T Lf k) (hL : ∀ c, c < k → 2 ≤ Lf c ∧ Lf c ≤ 4) (hm : 2 ≤ m ∧ m ≤ 4) (hg : ∀ p, p < m → g p < 10) (hk : k < 8) (hn : ∀ c, c < k → ¬ (Lf c = m ∧ ∀ p, p < m → T (c * 4 + p) = nI (g p))) : ¬ acDup T k (nI (g 0)) (nI (g 1)) (zx g m 2) (zx g m 3) := by
  rintro (h | ⟨c, hc, h0, h1, h2, h3⟩)
  · omega
  · have hz : ∀ p, p < 4 → T (c * 4 + p) = zx g m p := by
      intro p hp
      rcases (by omega : p = 0 ∨ p = 1 ∨ p = 2 ∨ p = 3) with rfl | rfl | rfl | rfl
      · rw [h0]; exact zx_t (by omega)
      · rw [h1]; exact zx_t (by omega)
      · exact h2
      · exact h3
    have hLc := hL c hc
    have hlen : Lf c = m := by
      rcases Nat.lt_trichotomy (Lf c) m with q | q | q
      · have e1 := (hB.1 c hc).2 (Lf c) (Nat.le_refl _) (by omega)
        rw [hz _ (by omega), ← zx_t q] at e1
        exact absurd e1 (nI_m1 (by have := hg _ q; omega))
      · exact q
      · obtain ⟨x, hx, e1⟩ := (hB.1 c hc).1 m q
        rw [hz _ (by omega), ← zx_f (Nat.lt_irrefl _)] at e1
        exact absurd e1.symm (nI_m1 (by omega))
    exact hn c hc ⟨hlen, fun p hp => by rw [hz p (by omega)]; exact (zx_t hp).symm⟩
theorem bk_add {T : Nat → Int32} {Lf g : Nat → Nat} {k m : Nat} (hB : BK T Lf k) (hL : ∀ c, c < k → 2 ≤ Lf c ∧ Lf c ≤ 4) (hm : 2 ≤ m ∧ m ≤ 4) (hg : ∀ p, p < m → g p < 10) (hn : ∀ c, c < k → ¬ (Lf c = m ∧ ∀ p, p < m → T (c * 4 + p) = nI (g p))) : BK (rT T k g m) (updN Lf k m) (k + 1) := by
  have hnew : ∀ p, p < m → rT T k g m (k * 4 + p) = nI (g p) := fun p hp => by rw [rT_at T k g hm (by omega)]; exact (zx_t hp).symm
  refine ⟨fun c hc => ?_, fun c c' hc hc' hl he => ?_⟩
  · by_cases e : c = k
    · subst e
      rw [updN_s]
      refine ⟨fun p hp => ⟨g p, hg p hp, hnew p hp⟩, fun p hp hp4 => ?_⟩
      rw [rT_at T c g hm hp4]; exact (zx_f (by omega)).symm
    · rw [updN_n _ e]
      have hLc := hL c (by omega)
      refine ⟨fun p hp => ?_, fun p hp hp4 => ?_⟩
      · rw [rT_old T g m (by omega) (by omega)]; exact (hB.1 c (by omega)).1 p hp
      · rw [rT_old T g m (by omega) (by omega)]; exact (hB.1 c (by omega)).2 p hp hp4
  · by_cases e : c = k <;> by_cases e' : c' = k
    · rw [e, e']
    · subst e
      rw [updN_s] at hl he
      rw [updN_n _ e'] at hl
      refine absurd ⟨hl.symm, fun p hp => ?_⟩ (hn c' (by omega))
      rw [← hnew p hp, he p hp, rT_old T g m (by omega) (by omega)]
    · subst e'
      rw [updN_s, updN_n _ e] at hl
      rw [updN_n _ e] at he
      refine absurd ⟨hl, fun p hp => ?_⟩ (hn c (by omega))
      rw [← hnew p hp, ← he p (by omega), rT_old T g m (by omega) (by omega)]
    · rw [updN_n _ e, updN_n _ e'] at hl
      rw [updN_n _ e] at he
      have hLc := hL c (by omega)
      refine hB.2 c c' (by omega) (by omega) hl (fun p hp => ?_)
      have := he p hp
      rw [rT_old T g m (by omega) (by omega), rT_old T g m (by omega) (by omega)] at this
      exact this
theorem dcT_at (T : Nat → Int32) {k j c p : Nat} (hc : c < k - 1) (hp : p < 4) : dcT T k j (c * 4 + p) = T ((if c < j then c else c + 1) * 4 + p) := by
  unfold dcT
  by_cases h : c < j
  · rw [if_pos h, pk_cpy_out (Or.inl (by omega))]
  · rw [if_neg h, pk_cpy_in (by omega) (by omega)]
    congr 1
    omega
theorem bk_drop {T : Nat → Int32} {Lf : Nat → Nat} {k j : Nat} (hB : BK T Lf k) (hL : ∀ c, c < k → 2 ≤ Lf c ∧ Lf c ≤ 4) (hj : j < k) : BK (dcT T k j) (dcL Lf k j) (k - 1) := by
  have hl : ∀ c, c < k - 1 → dcL Lf k j c = Lf (if c < j then c else c + 1) := fun c hc => by
    rw [dcL_at Lf hc]
    by_cases h : c < j
    · rw [if_pos h, if_pos h]
    · rw [if_neg h, if_neg h]
  have hix : ∀ c, c < k - 1 → (if c < j then c else c + 1) < k := fun c hc => by split <;> omega
  refine ⟨fun c hc => ?_, fun c c' hc hc' he h => ?_⟩
  · rw [hl c hc]
    have hb := hB.1 _ (hix c hc)
    have hLc := hL _ (hix c hc)
    refine ⟨fun p hp => ?_, fun p hp hp4 => ?_⟩
    · rw [dcT_at T hc (by omega)]; exact hb.1 p hp
    · rw [dcT_at T hc hp4]; exact hb.2 p hp hp4
  · rw [hl c hc, hl c' hc'] at he
    rw [hl c hc] at h
    have hLc := hL _ (hix c hc)
    have := hB.2 _ _ (hix c hc) (hix c' hc') he (fun p hp => by
      have h9 := h p hp
      rw [dcT_at T hc (by omega), dcT_at T hc' (by omega)] at h9
      exact h9)
    split at this <;> split at this <;> omega
def SI (bd k n q sg rp lo cnt : Nat) (T : Nat → Int32) (Lf t f lf : Nat → Nat) (C : Nat → Int32) (ps : Nat → Nat) : Prop :=
  n ≤ 24 ∧ k ≤ 8 ∧ (∀ c, c < k → 2 ≤ Lf c ∧ Lf c ≤ 4) ∧ (∀ j, j < n → t j < 10) ∧ BK T Lf k ∧ PartC t n T Lf k (-1) 0 0 f lf C ps cnt ∧ (1 ≤ q ∧ q ≤ 9) ∧ sg ≤ bd ∧ 3 * lo ≤ rp ∧ rp ≤ sg
theorem SI.mono {bd bd2 k n q sg rp lo cnt : Nat} {T : Nat → Int32} {Lf t f lf : Nat → Nat} {C : Nat → Int32} {ps : Nat → Nat} (h : SI bd k n q sg rp lo cnt T Lf t f lf C ps) (hb : bd ≤ bd2) : SI bd2 k n q sg rp lo cnt T Lf t f lf C ps :=
  ⟨h.1, h.2.1, h.2.2.1, h.2.2.2.1, h.2.2.2.2.1, h.2.2.2.2.2.1, h.2.2.2.2.2.2.1, Nat.le_trans h.2.2.2.2.2.2.2.1 hb, h.2.2.2.2.2.2.2.2⟩
/-- the pool with a row more -/
theorem rw_add {D : va_G} {cI : ClassId} {R Lf g : Nat → Nat} {T : Nat → Int32} {k m r : Nat} {H : Heap} (hL : ∀ c, c < k → 2 ≤ Lf c ∧ Lf c ≤ 4) (hm : 2 ≤ m ∧ m ≤ 4) (hP : va_P D vwCl (rwW cI R Lf T k) H) (hr : va_at D vwCl (r, .inl (cI, m, .inl (nA g))) H) : va_P D vwCl (rwW cI (updN R k r) (updN Lf k m) (rT T k g m) (k + 1)) H := by
  refine rw_mk (fun i hi => ?_)
  by_cases e : i = k
  · subst e
    rw [updN_s, updN_s]
    exact fr_eqI (fr_one hr) (fun p hp => by rw [rT_at T i g hm (by omega)]; exact zx_t hp)
  · rw [updN_n _ e, updN_n _ e]
    have hLi := hL i (by omega)
    exact fr_eqI (rw_get 0 hP rfl (by omega)) (fun p hp => by rw [rT_old T g m (by omega) (by omega)])
theorem rw_drop {D : va_G} {cI : ClassId} {R Lf : Nat → Nat} {T : Nat → Int32} {k j : Nat} {H : Heap} (hL : ∀ c, c < k → 2 ≤ Lf c ∧ Lf c ≤ 4) (hj : j < k) (hP : va_P D vwCl (rwW cI R Lf T k) H) : va_P D vwCl (rwW cI (dcR R j) (dcL Lf k j) (dcT T k j) (k - 1)) H := by
  refine rw_mk (fun i hi => ?_)
  by_cases z : i < j
  · have h1 := rw_get 0 hP rfl (show i < k by omega)
    have hLi := hL i (by omega)
    have e1 : dcR R j i = R i := if_pos z
    have e2 : dcL Lf k j i = Lf i := by rw [dcL_at Lf hi, if_pos z]
    rw [e1, e2]
    exact fr_eqI h1 (fun p hp => by rw [dcT_at T hi (by omega), if_pos z])
  · have h1 := rw_get 0 hP rfl (show i + 1 < k by omega)
    have hLi := hL (i + 1) (by omega)
    have e1 : dcR R j i = R (i + 1) := if_neg z
    have e2 : dcL Lf k j i = Lf (i + 1) := by rw [dcL_at Lf hi, if_neg z]
    rw [e1, e2]
    exact fr_eqI h1 (fun p hp => by rw [dcT_at T hi (by omega), if_neg z])
theorem dup_s {A : Prop} {P : Nat → Prop} {i : Nat} (h : A ∨ ∃ c, c < i ∧ P c) : A ∨ ∃ c, c < i + 1 ∧ P c := by
  rcases h with h | ⟨c, h1, h2⟩
  · exact Or.inl h
  · exact Or.inr ⟨c, by omega, h2⟩
theorem dup_n {A : Prop} {P : Nat → Prop} {i : Nat} (h : ¬ (A ∨ ∃ c, c < i ∧ P c)) (h2 : ¬ P i) : ¬ (A ∨ ∃ c, c < i + 1 ∧ P c) := by
  rintro (q | ⟨c, h3, h4⟩)
  · exact h (Or.inl q)
  · by_cases e : c = i
    · subst e; exact h2 h4
    · exact h (Or.inr ⟨c, by omega, h4⟩)
theorem hL_add {Lf : Nat → Nat} {k m : Nat} (hL : ∀ c, c < k → 2 ≤ Lf c ∧ Lf c ≤ 4) (hm : 2 ≤ m ∧ m ≤ 4) : ∀ c, c < k + 1 → 2 ≤ updN Lf k m c ∧ updN Lf k m c ≤ 4 := by
  intro c hc
  by_cases h : c = k
  · rw [h, updN_s]; exact hm
  · rw [updN_n _ h]; exact hL c (by omega)
