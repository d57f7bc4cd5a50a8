/-! base rows of this claim: numbers as naturals, properties as 0 and 1, two forms of contract (RO: nothing is written; MU: the world's cells alone are written, none is made) -/
noncomputable def z1 (P : Prop) : Int32 := @ite _ P (Classical.propDecidable P) 1 0
theorem z1_t {P : Prop} (h : P) : z1 P = 1 := by unfold z1; exact if_pos h
theorem z1_f {P : Prop} (h : ¬ P) : z1 P = 0 := by unfold z1; exact if_neg h
theorem z1_c {P Q : Prop} (h : P ↔ Q) : z1 P = z1 Q := by rw [propext h]
theorem z1_nar (P : Prop) : narrow .boolean (.int (z1 P)) = .int (z1 P) := by
  by_cases h : P
  · rw [z1_t h]; rfl
  · rw [z1_f h]; rfl
theorem z1_1 {P : Prop} (h : P) : nI 1 = z1 P := (z1_t h).symm
theorem z1_0 {P : Prop} (h : ¬ P) : nI 0 = z1 P := (z1_f h).symm
theorem z1_p {P : Prop} (h : z1 P = 0) : ¬ P := fun q => by rw [z1_t q] at h; exact absurd h (by decide)
theorem z1_n {P : Prop} (h : ¬ z1 P = 0) : P := Classical.byContradiction fun q => h (z1_f q)
def nA (g : Nat → Nat) : Nat → Int32 := fun j => nI (g j)
def updN (g : Nat → Nat) (k x : Nat) : Nat → Nat := fun j => if j = k then x else g j
theorem upd_nA (g : Nat → Nat) (k x : Nat) : upd (nA g) k (nI x) = nA (updN g k x) := by
  funext j
  unfold upd nA updN
  by_cases h : j = k
  · rw [if_pos h, if_pos h]
  · rw [if_neg h, if_neg h]
theorem cpy_nA (f g : Nat → Nat) (a b n : Nat) : va_cpy (nA f) (nA g) a b n = nA (va_cpy f g a b n) := by
  funext j
  unfold va_cpy nA
  by_cases h : b ≤ j ∧ j < b + n
  · simp only [if_pos h]
  · simp only [if_neg h]
theorem updN_s (g : Nat → Nat) (k x : Nat) : updN g k x k = x := if_pos rfl
theorem updN_n (g : Nat → Nat) {k x j : Nat} (h : j ≠ k) : updN g k x j = g j := if_neg h
theorem nI_in2 {a : Nat} (h : a < 2 ^ 31) : (nI a).toNatClampNeg = a := nI_clamp h
theorem ci_m1 : Int32.ofInt (-1) = -1 := by decide
theorem ci_0 : Int32.ofInt 0 = nI 0 := by decide
theorem ci_1 : Int32.ofInt 1 = nI 1 := by decide
theorem ci_2 : Int32.ofInt 2 = nI 2 := by decide
theorem ci_3 : Int32.ofInt 3 = nI 3 := by decide
theorem ci_4 : Int32.ofInt 4 = nI 4 := by decide
theorem ci_5 : Int32.ofInt 5 = nI 5 := by decide
theorem bp_of : ∀ n : Nat, n < 128 → (Int8.ofInt (n : Int)).toInt32 = nI n := by decide +kernel
theorem z_inc (i k : Nat) : nI i + Int32.ofInt (k : Int) = nI (i + k) := by
  rw [← nI_add]; rfl
theorem z_inc1 (i : Nat) : nI i + Int32.ofInt 1 = nI (i + 1) := nI_1 i
theorem z_inc5 (i : Nat) : nI i + Int32.ofInt 5 = nI (i + 5) := by rw [← nI_add]; rfl
theorem z_dec1 (i : Nat) : nI (i + 1) + Int32.ofInt (-1) = nI i := pk_m1 i
theorem z_max0 {m : Nat} (h : m < 2 ^ 31) : (if nI 0 < nI m then nI m else nI 0) = nI m := by
  by_cases q : nI 0 < nI m
  · exact if_pos q
  · rw [if_neg q]
    have h2 : ¬ 0 < m := fun z => q ((nI_ltI (by decide) h).mpr z)
    rw [show m = 0 by omega]
theorem z_min24 {m : Nat} (h : m ≤ 24) : (if nI 24 < nI m then nI 24 else nI m) = nI m :=
  if_neg (fun q => by have := (nI_ltI (by decide) (by omega)).mp q; omega)
theorem z_p0 {w : Nat} (h : w < 2 ^ 31) (q : nI w - nI 1 < 0) : w = 0 := by
  rcases Nat.eq_zero_or_pos w with z | z
  · exact z
  · rw [pk_sub (by omega : 1 ≤ w)] at q
    exact absurd q (nI_pos (by omega))
theorem z_p1 {w : Nat} (q : ¬ nI w - nI 1 < 0) : ∃ u, w = u + 1 := by
  rcases w with _ | u
  · exact absurd (by decide) q
  · exact ⟨u, rfl⟩
theorem z_pred (u : Nat) : nI (u + 1) - nI 1 = nI u := by
  rw [pk_sub (by omega : 1 ≤ u + 1)]; rfl
theorem z_decR (u : Nat) : nI u + Int32.ofInt (-1) = nI u - nI 1 := by
  show nI u + (-1) = nI u - nI 1
  rw [Int32.sub_eq_add_neg]; rfl
theorem va_P_nil (D : va_G) (cl : List vw_C) (H : Heap) : va_P D cl [] H := fun k q h => by simp at h
theorem z_has_t {x : Int32} {k : Nat} (hk : k < 2 ^ 31) (h1 : ¬ x < 0) (h2 : ¬ nI k ≤ x) : ∃ j : Nat, j < k ∧ x = nI j := by
  rcases pk_ix x hk with h | h | h
  · exact absurd h h1
  · exact absurd h h2
  · exact h
theorem z_has_n {x : Int32} {k : Nat} (hk : k < 2 ^ 31) (h : x < 0) : ¬ ∃ j : Nat, j < k ∧ x = nI j := by
  rintro ⟨j, hj, rfl⟩
  exact nI_pos (Nat.lt_trans hj hk) h
theorem z_has_g {x : Int32} {k : Nat} (hk : k < 2 ^ 31) (h : nI k ≤ x) : ¬ ∃ j : Nat, j < k ∧ x = nI j := by
  rintro ⟨j, hj, rfl⟩
  exact nI_ge hj hk h
theorem updN_2 (g : Nat → Nat) (k a b : Nat) : updN (updN g k a) k b = updN g k b := by
  funext j
  unfold updN
  by_cases h : j = k
  · rw [if_pos h, if_pos h]
  · rw [if_neg h, if_neg h, if_neg h]
def clen (x3 x4 : Int32) : Nat := if x4 = -1 then (if x3 = -1 then 2 else 3) else 4
def wc (x : Nat) : Nat := if 8 ≤ x then 2 else 1
def sN (f : Nat → Nat) : Nat → Nat
  | 0 => 0
  | n + 1 => sN f n + f n
/-- how many of the first have a property -/
noncomputable def cN (P : Nat → Prop) : Nat → Nat
  | 0 => 0
  | n + 1 => cN P n + @ite _ (P n) (Classical.propDecidable _) 1 0
theorem cN_t {P : Nat → Prop} {n : Nat} (h : P n) : cN P (n + 1) = cN P n + 1 := by
  show cN P n + @ite _ (P n) (Classical.propDecidable _) 1 0 = _
  rw [if_pos h]
theorem cN_f {P : Nat → Prop} {n : Nat} (h : ¬ P n) : cN P (n + 1) = cN P n := by
  show cN P n + @ite _ (P n) (Classical.propDecidable _) 1 0 = _
  rw [if_neg h]; rfl
theorem cN_le (P : Nat → Prop) : ∀ n, cN P n ≤ n := by
  intro n
  induction n with
  | zero => exact Nat.le_refl _
  | succ n ih =>
    by_cases h : P n
    · rw [cN_t h]; omega
    · rw [cN_f h]; omega
/-- the group that is the count n is garbled -/
def gB (q n : Nat) : Prop := q ≤ (n * 7 + n / 10) % 10
def zin (w : va_W) : Nat → Prop := fun q => q ∈ w.map Prod.fst
def zput : va_W → List Nat → va_W → va_W
  | ws, i :: is, e :: es => zput (ws.set i e) is es
  | ws, [], _ => ws
  | ws, _ :: _, [] => ws
theorem zput_get : ∀ (is : List Nat) (es ws : va_W), is.length = es.length → va_nd is = true → (∀ i ∈ is, i < ws.length) → ∀ (k : Nat) (q : Nat × va_E), (zput ws is es)[k]? = some q → (∃ j : Nat, is[j]? = some k ∧ es[j]? = some q) ∨ (k ∉ is ∧ ws[k]? = some q) := by
  intro is
  induction is with
  | nil => intro es ws _ _ _ k q h; exact Or.inr ⟨List.not_mem_nil, by cases es <;> exact h⟩
  | cons i is ih =>
    intro es ws hl hn hlt k q h
    cases es with
    | nil => simp at hl
    | cons e es =>
      simp only [va_nd, Bool.and_eq_true, decide_eq_true_eq] at hn
      have hil : i < ws.length := hlt i List.mem_cons_self
      rcases ih es (ws.set i e) (by simpa using hl) hn.2 (fun j hj => by rw [List.length_set]; exact hlt j (List.mem_cons_of_mem _ hj)) k q h with ⟨j, h1, h2⟩ | ⟨h1, h2⟩
      · exact Or.inl ⟨j + 1, h1, h2⟩
      · by_cases hk : k = i
        · subst hk
          rw [List.getElem?_set_self hil] at h2
          exact Or.inl ⟨0, rfl, h2⟩
        · rw [List.getElem?_set_ne (Ne.symm hk)] at h2
          exact Or.inr ⟨fun hm => (List.mem_cons.mp hm).elim hk h1, h2⟩
/-- behind a call that writes its own world's cells alone -/
theorem zput_P {D : va_G} {cl : List vw_C} {A0 : Nat → Prop} {ws wc w1 : va_W} {H H1 : Heap} (hP : va_P D cl ws H) (hD : va_D A0 ws) (is : List Nat) (hn : va_nd is = true) (hs : is.map (fun i => ws[i]?) = wc.map some) (hw : w1.map Prod.fst = wc.map Prod.fst) (hP1 : va_P D cl w1 H1)
    (hk : ∀ q : Nat, q < H.size → ¬ zin wc q → H1[q]? = H[q]?) : va_P D cl (zput ws is w1) H1 ∧ va_D A0 (zput ws is w1) := by
  have hlen : is.length = w1.length := by
    have h1 := congrArg List.length hs
    have h2 := congrArg List.length hw
    simp at h1 h2
    omega
  have hat : ∀ (j k : Nat), is[j]? = some k → ∃ q, wc[j]? = some q ∧ ws[k]? = some q := by
    intro j k hj
    have h1 : (is.map (fun i => ws[i]?))[j]? = some (ws[k]?) := by rw [List.getElem?_map, hj]; rfl
    rw [hs, List.getElem?_map] at h1
    cases hq : wc[j]? with
    | none => rw [hq] at h1; cases h1
    | some q => rw [hq] at h1; exact ⟨q, rfl, (Option.some.inj h1).symm⟩
  have hlt : ∀ i ∈ is, i < ws.length := by
    intro i hi
    obtain ⟨j, hj⟩ := List.getElem?_of_mem hi
    obtain ⟨q, -, h2⟩ := hat j i hj
    exact (List.getElem?_eq_some_iff.mp h2).1
  have key := zput_get is w1 ws hlen hn hlt
  have same : ∀ (k : Nat) (q : Nat × va_E), (zput ws is w1)[k]? = some q → ∃ q0, ws[k]? = some q0 ∧ q0.1 = q.1 := by
    intro k q h
    rcases key k q h with ⟨j, h1, h2⟩ | ⟨-, h2⟩
    · obtain ⟨q0, h3, h4⟩ := hat j k h1
      refine ⟨q0, h4, ?_⟩
      have h5 : (w1.map Prod.fst)[j]? = some q.1 := by rw [List.getElem?_map, h2]; rfl
      rw [hw, List.getElem?_map, h3] at h5
      exact Option.some.inj h5
    · exact ⟨q, h2, rfl⟩
  refine ⟨fun k q h => ?_, fun i j x y hi hj hxy => ?_, fun k q h => ?_⟩
  · rcases key k q h with ⟨j, h1, h2⟩ | ⟨h1, h2⟩
    · exact hP1 j q h2
    · refine (hP k q h2).kept (hk q.1 (hP k q h2).lt ?_)
      intro hz
      obtain ⟨q0, hm, he⟩ := List.mem_map.mp hz
      obtain ⟨j, hj⟩ := List.getElem?_of_mem hm
      have h3 : (is.map (fun i => ws[i]?))[j]? = some (some q0) := by rw [hs, List.getElem?_map, hj]; rfl
      rw [List.getElem?_map] at h3
      cases hi : is[j]? with
      | none => rw [hi] at h3; cases h3
      | some i =>
        rw [hi] at h3
        have h4 : ws[i]? = some q0 := Option.some.inj h3
        have := hD.1 i k q0 q h4 h2 he
        subst this
        exact h1 (List.mem_of_getElem? hi)
  · obtain ⟨x0, h1, h2⟩ := same i x hi
    obtain ⟨y0, h3, h4⟩ := same j y hj
    exact hD.1 i j x0 y0 h1 h3 (h2.trans (hxy.trans h4.symm))
  · obtain ⟨q0, h1, h2⟩ := same k q h
    rw [← h2]
    exact hD.2 k q0 h1
def zNest1 : Cond := .methodLinkNest RX4 35 yX3_init RX4
def zNest2 : Cond := .methodLinkNest RX3 32 yX4_isGarbled RX4
def zNest3 : Cond := .methodLinkNest RL 96 yX5_init RL
/-- the class of the rows of rows: kept behind the classes' own numbers -/
abbrev zQ (D : va_G) : ClassId := D.1 9
/-- what the tables say of rows of rows of numbers -/
def zArr (D : va_G) (U : State) : Prop := (Cond.arrayOver (.array .int)).before #[] U = true ∧ U.vm.findClass ("[" ++ (FieldType.array .int).toString) = some (zQ D)
/-- what the tables say beside the words that are kept: nest mates, rows of rows -/
def zE (D : va_G) (U : State) : Prop := va_Nw zNest1 U ∧ va_Nw zNest2 U ∧ va_Nw zNest3 U ∧ zArr D U
theorem zArr.spec {D : va_G} {U : State} (h : zArr D U) : ∃ comp kA, U.vm.findClass (FieldType.array .int).toString = some comp ∧ (U.vm.classes.findIdx? fun x => match x.kind with | .array component _ => component == comp | _ => false) = some (zQ D) ∧ U.vm.classes[zQ D]? = some kA ∧ kA.kind = .array comp (.array .int) := by
  obtain ⟨comp, c, k, h1, h2, h3, h4, h5⟩ := arrayOverA_spec h.1
  have e : c = zQ D := Option.some.inj (h5.symm.trans h.2)
  subst e
  exact ⟨comp, k, h1, h2, h3, h4⟩
theorem zArr.moved {D : va_G} {u U : State} (hvm : u.vm.Alike U.vm) (h : zArr D u) : zArr D U := by
  obtain ⟨comp, k, h1, h2, h3, h4⟩ := h.spec
  obtain ⟨k', hk', he⟩ := hvm.2.2 _ _ h3
  have hi : (U.vm.classes.findIdx? fun (x : Class) => match x.kind with | .array component _ => component == comp | _ => false) = some (zQ D) := by
    have e1 := va_idx_bare U.vm comp
    have e2 := va_idx_bare u.vm comp
    have e3 : U.vm.bare = u.vm.bare := by first | exact hvm.bare_eq | exact hvm.bare_eq.symm
    rw [e3] at e1
    exact (e1.symm.trans e2).trans h2
  have hkind : k'.kind = .array comp (.array .int) := by rw [he]; exact h4
  have f1 : U.vm.findClass (FieldType.array .int).toString = some comp := by rw [hvm.findClass]; exact h1
  have f2 : U.vm.findClass ("[" ++ (FieldType.array .int).toString) = some (zQ D) := by rw [hvm.findClass]; exact h.2
  refine ⟨?_, f2⟩
  unfold Cond.before Cond.holds
  simp only [Cond.value]
  rw [f1, Option.bind_some]
  refine (congrArg (fun o : Option Nat => (o.bind (fun c => (U.vm.classes[c]?).map fun (k : Class) => match k.kind with | .array _ ty => decide (ty = FieldType.array .int) && decide (U.vm.findClass ("[" ++ (FieldType.array .int).toString) = some c) | _ => false) == some true)) hi).trans ?_
  simp [hk', hkind, f2]
theorem zE.warm {D : va_G} {s U : State} (hW : s.WarmedH U.vm) (h : zE D s) : zE D U :=
  ⟨va_Nw.warmM hW h.1, va_Nw.warmM hW h.2.1, va_Nw.warmM hW h.2.2.1, h.2.2.2.moved hW.alike⟩
theorem zE.same {D : va_G} {s U : State} (hv : U.vm = s.vm) (h : zE D s) : zE D U :=
  ⟨va_Nw.same rfl hv.symm h.1, va_Nw.same rfl hv.symm h.2.1, va_Nw.same rfl hv.symm h.2.2.1, h.2.2.2.moved (by rw [hv]; exact Vm.Alike.refl _)⟩
def zK (D : va_G) (cI : ClassId) (U : State) : Prop := va_K D vwCl [(cI, .int)] U ∧ zE D U
theorem zK.warm {D : va_G} {cI : ClassId} {s U : State} (hW : s.WarmedH U.vm) (h : zK D cI s) : zK D cI U := ⟨va_K.moved hW.alike h.1, h.2.warm hW⟩
theorem zK.call {D : va_G} {cI : ClassId} {U : State} {g : JFrame} {mk : MethodId} {a : Array Value} (h : zK D cI U) : zK D cI (U.calling g mk a) := ⟨va_K.moved (u := U) (U := U.calling g mk a) (Vm.Alike.refl U.vm) h.1, zE.same (s := U) rfl h.2⟩
/-- the addresses are apart, and of a kind: said of the list of addresses, which no row changes -/
def zDD (A : Nat → Prop) (ads : List Nat) : Prop := (∀ (i j a : Nat), ads[i]? = some a → ads[j]? = some a → i = j) ∧ ∀ a ∈ ads, A a
theorem zDD.to {A : Nat → Prop} {ads : List Nat} {ws : va_W} (h : zDD A ads) (hw : ws.map Prod.fst = ads) : va_D A ws := by
  subst hw
  have key : ∀ (k : Nat) (q : Nat × va_E), ws[k]? = some q → (ws.map Prod.fst)[k]? = some q.1 := fun k q hk => by rw [List.getElem?_map, hk]; rfl
  refine ⟨fun i j x y hi hj hxy => h.1 i j x.1 (key i x hi) (by rw [hxy]; exact key j y hj), fun k q hk => h.2 q.1 (List.mem_of_getElem? (key k q hk))⟩
theorem zDD.of {A : Nat → Prop} {ws : va_W} (h : va_D A ws) : zDD A (ws.map Prod.fst) := by
  refine ⟨fun i j a hi hj => ?_, fun a ha => ?_⟩
  · rw [List.getElem?_map] at hi hj
    cases hx : ws[i]? with
    | none => rw [hx] at hi; cases hi
    | some x =>
      cases hy : ws[j]? with
      | none => rw [hy] at hj; cases hj
      | some y =>
        rw [hx] at hi
        rw [hy] at hj
        exact h.1 i j x y hx hy ((Option.some.inj hi).trans (Option.some.inj hj).symm)
  · obtain ⟨q, hq, he⟩ := List.mem_map.mp ha
    obtain ⟨k, hk⟩ := List.getElem?_of_mem hq
    rw [← he]
    exact h.2 k q hk
def roQ (r : Value) : Array Value → State → Outcome → State → Prop := fun _ st o t => o = .returned (some r) ∧ t.heap = st.heap
def RO (l : Launch) (y : MethodName) (ws : List Cond) (rm : Room) (D : va_G) (cI : ClassId) (w0 : va_W) (as : List Value) (r : Value) : Prop :=
  Met l y ws rm (va_Pc as (fun U => va_P D vwCl w0 U.heap ∧ zK D cI U)) (roQ r) 0 0 (fun _ => False)
def muQ (D : va_G) {S : Type} (post : Option Value → S → Prop) (w1 : S → va_W) (w0 : va_W) : Array Value → State → Outcome → State → Prop := fun _ st o t =>
  (∃ (v : Option Value) (u : S), o = .returned v ∧ post v u ∧ va_P D vwCl (w1 u) t.heap) ∧ va_F (zin w0) st t
def MU (l : Launch) (y : MethodName) (ws : List Cond) (rm : Room) (D : va_G) (cI : ClassId) (w0 : va_W) (as : List Value) {S : Type} (post : Option Value → S → Prop) (w1 : S → va_W) : Prop :=
  Met l y ws rm (va_Pc as (fun U => va_P D vwCl w0 U.heap ∧ zK D cI U ∧ va_D (fun _ => True) w0)) (muQ D post w1 w0) 0 0 (zin w0)
theorem ro_of {l : Launch} {y : MethodName} {ws ws' : List Cond} {rm : Room} {D : va_G} {cI : ClassId} {w0 : va_W} {as : List Value} {r : Value} {cc : ByteArray} {maxL : Nat} {ret : Option FieldType} {C : String}
    (hC : y.cls = C) (hy : plainName y.cls = true) (hw : ws = Cond.code y cc maxL ret :: ws') (hn : (lg_sl as).length ≤ maxL)
    (body : ∀ (p : Program) (e : Env) (s : State) (m : MethodId) (args : Array Value) (below : List Frame) (meth : Method) (c : Code) (ls : Array Slot) (Q : State → Prop), MQ below (roQ r) args s 0 0 (fun _ => False) = Q → p.tables.exec = Jvm.exec → c.code = cc → meth.sig.returnType = ret → meth.locks = false → c.maxLocals = maxL → (∀ w ∈ ws, w.before args s = true) → s.vm.findClass C = some m.cls →
      va_K D vwCl [(cI, .int)] s → zE D s → va_P D vwCl w0 s.heap → lv_has ls maxL (lv_args 0 as) → W p l e rm s m args below meth c s.heap [] 0 0 Q (F0 m 0 ls [])) : RO l y ws rm D cI w0 as r := by
  refine Met.ofW (cc := cc) (maxL := maxL) (ret := ret) hy hw ?_
  intro p e s m args below meth c s₁ B hml hv
  obtain ⟨rfl, hP, hK, hE⟩ := hv
  have hl := lv_entry as (n := maxL) hn
  rw [lg_entry_eq]
  subst hC
  exact body p e s m as.toArray below meth c _ _ rfl B.exec B.bytes B.returns B.notSynchronized hml (atoms_spec (ws := ws) B.pre) (findClass_of_methodNamed B.named) hK hE hP hl
theorem mu_of {l : Launch} {y : MethodName} {ws ws' : List Cond} {rm : Room} {D : va_G} {cI : ClassId} {w0 : va_W} {as : List Value} {S : Type} {post : Option Value → S → Prop} {w1 : S → va_W} {cc : ByteArray} {maxL : Nat} {ret : Option FieldType} {C : String}
    (hC : y.cls = C) (hy : plainName y.cls = true) (hw : ws = Cond.code y cc maxL ret :: ws') (hn : (lg_sl as).length ≤ maxL)
    (body : ∀ (p : Program) (e : Env) (s : State) (m : MethodId) (args : Array Value) (below : List Frame) (meth : Method) (c : Code) (ls : Array Slot) (Q : State → Prop) (A : Nat → Prop), zin w0 = A → MQ below (muQ D post w1 w0) args s 0 0 A = Q → p.tables.exec = Jvm.exec → c.code = cc → meth.sig.returnType = ret → meth.locks = false → c.maxLocals = maxL → (∀ w ∈ ws, w.before args s = true) → s.vm.findClass C = some m.cls →
      va_K D vwCl [(cI, .int)] s → zE D s → zDD A (w0.map Prod.fst) → ∀ (H : Heap) (locs : List Loc), va_P D vwCl w0 H → va_S A s.heap H locs → lv_has ls maxL (lv_args 0 as) → W p l e rm s m args below meth c H locs 0 0 Q (F0 m 0 ls [])) : MU l y ws rm D cI w0 as post w1 := by
  refine Met.ofW (cc := cc) (maxL := maxL) (ret := ret) hy hw ?_
  intro p e s m args below meth c s₁ B hml hv
  obtain ⟨rfl, hP, ⟨hK, hE⟩, hD⟩ := hv
  have hl := lv_entry as (n := maxL) hn
  rw [lg_entry_eq]
  subst hC
  have hD' : va_D (zin w0) w0 := ⟨hD.1, fun k q hk => List.mem_map.mpr ⟨q, List.mem_of_getElem? hk, rfl⟩⟩
  exact body p e s m as.toArray below meth c _ _ _ rfl rfl B.exec B.bytes B.returns B.notSynchronized hml (atoms_spec (ws := ws) B.pre) (findClass_of_methodNamed B.named) hK hE (zDD.of hD') s.heap [] hP va_S.rf hl
section ZROWS
variable {p : Program} {l : Launch} {e : Env} {R : Room} {s : State} {m : MethodId} {args : Array Value} {below : List Frame} {meth : Method} {c : Code} {H : Heap} {locs : List Loc} {cells slots : Nat} {Q : State → Prop}
variable {cc : ByteArray} {pc : Nat} {ls : Array Slot} {rest : List Value} {D : va_G} {A : Nat → Prop} {a : Nat} {tys : List (ClassId × FieldType)} {ws : va_W} {H0 : Heap}
theorem z_bipush {n : Nat} {z : Int} (hx : p.tables.exec = Jvm.exec) (hb : c.code = cc) (hz : z = (n : Int)) (hn : n < 128) (hdg : decode cc pc = .ok (.bipush z, 2))
    (k : W p l e R s m args below meth c H locs cells slots Q (F0 m (pc + 2) ls (.int (nI n) :: rest))) : W p l e R s m args below meth c H locs cells slots Q (F0 m pc ls rest) :=
  lv_bipush hx hb hdg (by rw [hz]; exact bp_of n hn) k
theorem z_iadd {x y : Nat} (hx : p.tables.exec = Jvm.exec) (hb : c.code = cc) (hdg : decode cc pc = .ok (.iadd, 1))
    (k : W p l e R s m args below meth c H locs cells slots Q (F0 m (pc + 1) ls (.int (nI (x + y)) :: rest))) : W p l e R s m args below meth c H locs cells slots Q (F0 m pc ls (.int (nI y) :: .int (nI x) :: rest)) :=
  lv_iadd hx hb hdg (by rw [nI_add]; exact k)
theorem z_isub {x y : Nat} (hx : p.tables.exec = Jvm.exec) (hb : c.code = cc) (hdg : decode cc pc = .ok (.isub, 1)) (h : y ≤ x)
    (k : W p l e R s m args below meth c H locs cells slots Q (F0 m (pc + 1) ls (.int (nI (x - y)) :: rest))) : W p l e R s m args below meth c H locs cells slots Q (F0 m pc ls (.int (nI y) :: .int (nI x) :: rest)) :=
  lv_isub hx hb hdg (by rw [pk_sub h]; exact k)
theorem z_imul {x y : Nat} (hx : p.tables.exec = Jvm.exec) (hb : c.code = cc) (hdg : decode cc pc = .ok (.imul, 1))
    (k : W p l e R s m args below meth c H locs cells slots Q (F0 m (pc + 1) ls (.int (nI (x * y)) :: rest))) : W p l e R s m args below meth c H locs cells slots Q (F0 m pc ls (.int (nI y) :: .int (nI x) :: rest)) :=
  lv_imul hx hb hdg (by rw [pk_mul]; exact k)
theorem z_idiv {x y : Nat} (hx : p.tables.exec = Jvm.exec) (hb : c.code = cc) (hdg : decode cc pc = .ok (.idiv, 1)) (h1 : x < 2 ^ 31) (h0 : 0 < y) (h2 : y < 2 ^ 31)
    (k : W p l e R s m args below meth c H locs cells slots Q (F0 m (pc + 1) ls (.int (nI (x / y)) :: rest))) : W p l e R s m args below meth c H locs cells slots Q (F0 m pc ls (.int (nI y) :: .int (nI x) :: rest)) :=
  lv_idiv hx hb hdg (nI_ne0 h0 h2) (by rw [pk_div h1 h0 h2]; exact k)
theorem z_irem {x y : Nat} (hx : p.tables.exec = Jvm.exec) (hb : c.code = cc) (hdg : decode cc pc = .ok (.irem, 1)) (h1 : x < 2 ^ 31) (h0 : 0 < y) (h2 : y < 2 ^ 31)
    (k : W p l e R s m args below meth c H locs cells slots Q (F0 m (pc + 1) ls (.int (nI (x % y)) :: rest))) : W p l e R s m args below meth c H locs cells slots Q (F0 m pc ls (.int (nI y) :: .int (nI x) :: rest)) :=
  lv_irem hx hb hdg (nI_ne0 h0 h2) (by rw [pk_rem h1 h0 h2]; exact k)
/-- the number on top under another name -/
theorem z_top {x y : Int32} (h : x = y) (k : W p l e R s m args below meth c H locs cells slots Q (F0 m pc ls (.int y :: rest))) : W p l e R s m args below meth c H locs cells slots Q (F0 m pc ls (.int x :: rest)) := h ▸ k
theorem z_icmp_lt {x y tgt : Nat} {off : Int} (hx : p.tables.exec = Jvm.exec) (hb : c.code = cc) (hdg : decode cc pc = .ok (.if_icmp .lt off, 3)) (ht : (pc : Int) + off = (tgt : Int)) (h1 : x < 2 ^ 31) (h2 : y < 2 ^ 31)
    (kt : x < y → W p l e R s m args below meth c H locs cells slots Q (F0 m tgt ls rest)) (kf : y ≤ x → W p l e R s m args below meth c H locs cells slots Q (F0 m (pc + 3) ls rest)) : W p l e R s m args below meth c H locs cells slots Q (F0 m pc ls (.int (nI y) :: .int (nI x) :: rest)) :=
  lv_icmp_lt hx hb hdg ht (fun h => kt ((nI_ltI h1 h2).mp h)) (fun h => kf (Nat.not_lt.mp fun q => h ((nI_ltI h1 h2).mpr q)))
theorem z_icmp_ge {x y tgt : Nat} {off : Int} (hx : p.tables.exec = Jvm.exec) (hb : c.code = cc) (hdg : decode cc pc = .ok (.if_icmp .ge off, 3)) (ht : (pc : Int) + off = (tgt : Int)) (h1 : x < 2 ^ 31) (h2 : y < 2 ^ 31)
    (kt : y ≤ x → W p l e R s m args below meth c H locs cells slots Q (F0 m tgt ls rest)) (kf : x < y → W p l e R s m args below meth c H locs cells slots Q (F0 m (pc + 3) ls rest)) : W p l e R s m args below meth c H locs cells slots Q (F0 m pc ls (.int (nI y) :: .int (nI x) :: rest)) :=
  lv_icmp_ge hx hb hdg ht (fun h => kt ((nI_leI h2 h1).mp h)) (fun h => kf (Nat.not_le.mp fun q => h ((nI_leI h2 h1).mpr q)))
theorem z_icmp_gt {x y tgt : Nat} {off : Int} (hx : p.tables.exec = Jvm.exec) (hb : c.code = cc) (hdg : decode cc pc = .ok (.if_icmp .gt off, 3)) (ht : (pc : Int) + off = (tgt : Int)) (h1 : x < 2 ^ 31) (h2 : y < 2 ^ 31)
    (kt : y < x → W p l e R s m args below meth c H locs cells slots Q (F0 m tgt ls rest)) (kf : x ≤ y → W p l e R s m args below meth c H locs cells slots Q (F0 m (pc + 3) ls rest)) : W p l e R s m args below meth c H locs cells slots Q (F0 m pc ls (.int (nI y) :: .int (nI x) :: rest)) :=
  lv_icmp_gt hx hb hdg ht (fun h => kt ((nI_ltI h2 h1).mp h)) (fun h => kf (Nat.not_lt.mp fun q => h ((nI_ltI h2 h1).mpr q)))
theorem z_icmp_le {x y tgt : Nat} {off : Int} (hx : p.tables.exec = Jvm.exec) (hb : c.code = cc) (hdg : decode cc pc = .ok (.if_icmp .le off, 3)) (ht : (pc : Int) + off = (tgt : Int)) (h1 : x < 2 ^ 31) (h2 : y < 2 ^ 31)
    (kt : x ≤ y → W p l e R s m args below meth c H locs cells slots Q (F0 m tgt ls rest)) (kf : y < x → W p l e R s m args below meth c H locs cells slots Q (F0 m (pc + 3) ls rest)) : W p l e R s m args below meth c H locs cells slots Q (F0 m pc ls (.int (nI y) :: .int (nI x) :: rest)) :=
  lv_icmp_le hx hb hdg ht (fun h => kt ((nI_leI h1 h2).mp h)) (fun h => kf (Nat.not_le.mp fun q => h ((nI_leI h1 h2).mpr q)))
theorem z_icmp_eq {x y tgt : Nat} {off : Int} (hx : p.tables.exec = Jvm.exec) (hb : c.code = cc) (hdg : decode cc pc = .ok (.if_icmp .eq off, 3)) (ht : (pc : Int) + off = (tgt : Int)) (h1 : x < 2 ^ 31) (h2 : y < 2 ^ 31)
    (kt : x = y → W p l e R s m args below meth c H locs cells slots Q (F0 m tgt ls rest)) (kf : x ≠ y → W p l e R s m args below meth c H locs cells slots Q (F0 m (pc + 3) ls rest)) : W p l e R s m args below meth c H locs cells slots Q (F0 m pc ls (.int (nI y) :: .int (nI x) :: rest)) :=
  lv_icmp_eq hx hb hdg ht (fun h => kt ((nI_eq h1 h2).mp h)) (fun h => kf fun q => h ((nI_eq h1 h2).mpr q))
theorem z_icmp_ne {x y tgt : Nat} {off : Int} (hx : p.tables.exec = Jvm.exec) (hb : c.code = cc) (hdg : decode cc pc = .ok (.if_icmp .ne off, 3)) (ht : (pc : Int) + off = (tgt : Int)) (h1 : x < 2 ^ 31) (h2 : y < 2 ^ 31)
    (kt : x ≠ y → W p l e R s m args below meth c H locs cells slots Q (F0 m tgt ls rest)) (kf : x = y → W p l e R s m args below meth c H locs cells slots Q (F0 m (pc + 3) ls rest)) : W p l e R s m args below meth c H locs cells slots Q (F0 m pc ls (.int (nI y) :: .int (nI x) :: rest)) :=
  lv_icmp_ne hx hb hdg ht (fun h => kt fun q => h ((nI_eq h1 h2).mpr q)) (fun h => kf ((nI_eq h1 h2).mp h))
theorem z_if_lt {x : Nat} {off : Int} {tgt : Nat} (hx : p.tables.exec = Jvm.exec) (hb : c.code = cc) (hdg : decode cc pc = .ok (.ifCond .lt off, 3)) (ht : (pc : Int) + off = (tgt : Int)) (h1 : x < 2 ^ 31)
    (kf : W p l e R s m args below meth c H locs cells slots Q (F0 m (pc + 3) ls rest)) : W p l e R s m args below meth c H locs cells slots Q (F0 m pc ls (.int (nI x) :: rest)) :=
  lv_if_lt hx hb hdg ht (fun h => absurd h (nI_pos h1)) (fun _ => kf)
theorem z_if_ge {x tgt : Nat} {off : Int} (hx : p.tables.exec = Jvm.exec) (hb : c.code = cc) (hdg : decode cc pc = .ok (.ifCond .ge off, 3)) (ht : (pc : Int) + off = (tgt : Int)) (h1 : x < 2 ^ 31)
    (kt : W p l e R s m args below meth c H locs cells slots Q (F0 m tgt ls rest)) : W p l e R s m args below meth c H locs cells slots Q (F0 m pc ls (.int (nI x) :: rest)) :=
  lv_if_ge hx hb hdg ht (fun _ => kt) (fun h => absurd (nI_pos' h1) h)
theorem z_if_eq {x tgt : Nat} {off : Int} (hx : p.tables.exec = Jvm.exec) (hb : c.code = cc) (hdg : decode cc pc = .ok (.ifCond .eq off, 3)) (ht : (pc : Int) + off = (tgt : Int)) (h1 : x < 2 ^ 31)
    (kt : x = 0 → W p l e R s m args below meth c H locs cells slots Q (F0 m tgt ls rest)) (kf : 0 < x → W p l e R s m args below meth c H locs cells slots Q (F0 m (pc + 3) ls rest)) : W p l e R s m args below meth c H locs cells slots Q (F0 m pc ls (.int (nI x) :: rest)) :=
  lv_if_eq hx hb hdg ht (fun h => kt (by rcases Nat.eq_zero_or_pos x with q | q; exact q; exact absurd h (nI_ne0 q h1))) (fun h => kf (by rcases Nat.eq_zero_or_pos x with q | q; exact absurd (by rw [q]; exact nI_0) h; exact q))
theorem z_if_ne {x tgt : Nat} {off : Int} (hx : p.tables.exec = Jvm.exec) (hb : c.code = cc) (hdg : decode cc pc = .ok (.ifCond .ne off, 3)) (ht : (pc : Int) + off = (tgt : Int)) (h1 : x < 2 ^ 31)
    (kt : 0 < x → W p l e R s m args below meth c H locs cells slots Q (F0 m tgt ls rest)) (kf : x = 0 → W p l e R s m args below meth c H locs cells slots Q (F0 m (pc + 3) ls rest)) : W p l e R s m args below meth c H locs cells slots Q (F0 m pc ls (.int (nI x) :: rest)) :=
  lv_if_ne hx hb hdg ht (fun h => kt (by rcases Nat.eq_zero_or_pos x with q | q; exact absurd (by rw [q]; exact nI_0) h; exact q)) (fun h => kf (by rcases Nat.eq_zero_or_pos x with q | q; exact q; exact absurd h (nI_ne0 q h1)))
theorem z_if_le {x tgt : Nat} {off : Int} (hx : p.tables.exec = Jvm.exec) (hb : c.code = cc) (hdg : decode cc pc = .ok (.ifCond .le off, 3)) (ht : (pc : Int) + off = (tgt : Int)) (h1 : x < 2 ^ 31)
    (kt : x = 0 → W p l e R s m args below meth c H locs cells slots Q (F0 m tgt ls rest)) (kf : 0 < x → W p l e R s m args below meth c H locs cells slots Q (F0 m (pc + 3) ls rest)) : W p l e R s m args below meth c H locs cells slots Q (F0 m pc ls (.int (nI x) :: rest)) :=
  lv_if_le hx hb hdg ht (fun h => kt (by rcases Nat.eq_zero_or_pos x with q | q; exact q; exact absurd h (nI_nle q h1))) (fun h => kf (by rcases Nat.eq_zero_or_pos x with q | q; exact absurd (by rw [q]; exact (by decide : nI 0 ≤ 0)) h; exact q))
theorem z_if_eqP {P : Prop} {tgt : Nat} {off : Int} (hx : p.tables.exec = Jvm.exec) (hb : c.code = cc) (hdg : decode cc pc = .ok (.ifCond .eq off, 3)) (ht : (pc : Int) + off = (tgt : Int))
    (kt : ¬ P → W p l e R s m args below meth c H locs cells slots Q (F0 m tgt ls rest)) (kf : P → W p l e R s m args below meth c H locs cells slots Q (F0 m (pc + 3) ls rest)) : W p l e R s m args below meth c H locs cells slots Q (F0 m pc ls (.int (z1 P) :: rest)) :=
  lv_if_eq hx hb hdg ht (fun h => kt (z1_p h)) (fun h => kf (z1_n h))
theorem z_if_neP {P : Prop} {tgt : Nat} {off : Int} (hx : p.tables.exec = Jvm.exec) (hb : c.code = cc) (hdg : decode cc pc = .ok (.ifCond .ne off, 3)) (ht : (pc : Int) + off = (tgt : Int))
    (kt : P → W p l e R s m args below meth c H locs cells slots Q (F0 m tgt ls rest)) (kf : ¬ P → W p l e R s m args below meth c H locs cells slots Q (F0 m (pc + 3) ls rest)) : W p l e R s m args below meth c H locs cells slots Q (F0 m pc ls (.int (z1 P) :: rest)) :=
  lv_if_ne hx hb hdg ht (fun h => kt (z1_n h)) (fun h => kf (z1_p h))
theorem z_ialdN (hx : p.tables.exec = Jvm.exec) (hb : c.code = cc) (hK : va_K D vwCl tys s) (hP : va_P D vwCl ws H) (q0 t0 : Nat) {cA : ClassId} {n : Nat} {g : Nat → Nat} (ha : ws[q0]? = some (a, .inl (cA, n, .inl (nA g)))) (ht : tys[t0]? = some (cA, .int)) {i : Nat} (hi : i < n) (hn : n < 2 ^ 31) (hdg : decode cc pc = .ok (.iaload, 1))
    (kk : W p l e R s m args below meth c H locs cells slots Q (F0 m (pc + 1) ls (.int (nI (g i)) :: rest))) : W p l e R s m args below meth c H locs cells slots Q (F0 m pc ls (.int (nI i) :: .ref a :: rest)) := by
  refine va_iald hx hb hK hP q0 t0 ha ht (vp_in_nI hi hn) hdg ?_
  rw [nI_clamp (Nat.lt_trans hi hn)]
  exact kk
theorem z_iald (hx : p.tables.exec = Jvm.exec) (hb : c.code = cc) (hK : va_K D vwCl tys s) (hP : va_P D vwCl ws H) (q0 t0 : Nat) {cA : ClassId} {n : Nat} {g : Nat → Int32} (ha : ws[q0]? = some (a, .inl (cA, n, .inl g))) (ht : tys[t0]? = some (cA, .int)) {i : Nat} (hi : i < n) (hn : n < 2 ^ 31) (hdg : decode cc pc = .ok (.iaload, 1))
    (kk : W p l e R s m args below meth c H locs cells slots Q (F0 m (pc + 1) ls (.int (g i) :: rest))) : W p l e R s m args below meth c H locs cells slots Q (F0 m pc ls (.int (nI i) :: .ref a :: rest)) := by
  refine va_iald hx hb hK hP q0 t0 ha ht (vp_in_nI hi hn) hdg ?_
  rw [nI_clamp (Nat.lt_trans hi hn)]
  exact kk
theorem z_iastN (hx : p.tables.exec = Jvm.exec) (hb : c.code = cc) (hK : va_K D vwCl tys s) (hP : va_P D vwCl ws H) {ads : List Nat} (hD : zDD A ads) (hads : ws.map Prod.fst = ads) (hS : va_S A H0 H locs) (q0 t0 : Nat) {cA : ClassId} {n : Nat} {g : Nat → Nat} (ha : ws[q0]? = some (a, .inl (cA, n, .inl (nA g)))) (ht : tys[t0]? = some (cA, .int)) {i x : Nat} (hi : i < n) (hn : n < 2 ^ 31) (hdg : decode cc pc = .ok (.iastore, 1))
    (kk : ∀ (H1 : Heap) (locs1 : List Loc), va_P D vwCl (ws.set q0 (a, .inl (cA, n, .inl (nA (updN g i x))))) H1 → va_S A H0 H1 locs1 → W p l e R s m args below meth c H1 locs1 cells slots Q (F0 m (pc + 1) ls rest)) : W p l e R s m args below meth c H locs cells slots Q (F0 m pc ls (.int (nI x) :: .int (nI i) :: .ref a :: rest)) := by
  refine va_iast hx hb hK hP (hD.to hads) hS q0 t0 ha ht (vp_in_nI hi hn) hdg (fun H1 locs1 h1 _ h3 => ?_)
  rw [nI_clamp (Nat.lt_trans hi hn), upd_nA] at h1
  exact kk H1 locs1 h1 h3
theorem z_iast (hx : p.tables.exec = Jvm.exec) (hb : c.code = cc) (hK : va_K D vwCl tys s) (hP : va_P D vwCl ws H) {ads : List Nat} (hD : zDD A ads) (hads : ws.map Prod.fst = ads) (hS : va_S A H0 H locs) (q0 t0 : Nat) {cA : ClassId} {n : Nat} {g : Nat → Int32} (ha : ws[q0]? = some (a, .inl (cA, n, .inl g))) (ht : tys[t0]? = some (cA, .int)) {i : Nat} {x : Int32} (hi : i < n) (hn : n < 2 ^ 31) (hdg : decode cc pc = .ok (.iastore, 1))
    (kk : ∀ (H1 : Heap) (locs1 : List Loc), va_P D vwCl (ws.set q0 (a, .inl (cA, n, .inl (upd g i x)))) H1 → va_S A H0 H1 locs1 → W p l e R s m args below meth c H1 locs1 cells slots Q (F0 m (pc + 1) ls rest)) : W p l e R s m args below meth c H locs cells slots Q (F0 m pc ls (.int x :: .int (nI i) :: .ref a :: rest)) := by
  refine va_iast hx hb hK hP (hD.to hads) hS q0 t0 ha ht (vp_in_nI hi hn) hdg (fun H1 locs1 h1 _ h3 => ?_)
  rw [nI_clamp (Nat.lt_trans hi hn)] at h1
  exact kk H1 locs1 h1 h3
variable {y : MethodName} {bytes : ByteArray} {maxL nL n index : Nat} {ret : Option FieldType} {wsc : List Cond} {rmc : Room} {Ts : List Cond} {own C : String} {b : Nat} {As st : List Value} {w0 : va_W} {cI : ClassId} {r : Value}
theorem ro_call {st : List Value} {a' : Array Value} {free : Addr → Prop} (hfree : ∀ q, ¬ free q) (hr : va_Run p l e R s m args below meth c H locs cells slots 0 0 (F0 m pc ls st) rest (roQ r a') free)
    (kk : W p l e R s m args below meth c H locs cells slots Q (F0 m (pc + 3) ls (r :: rest))) : W p l e R s m args below meth c H locs cells slots Q (F0 m pc ls st) := by
  intro T hT X
  obtain ⟨v, st₀, t, T', L, h0, X', hL, e1, e2, ⟨hv, hh⟩, hst⟩ := hr T hT X
  cases hv
  have hL0 : L = [] := by
    cases L with
    | nil => rfl
    | cons q _ => exact (hfree _ (hL q List.mem_cons_self)).elim
  subst hL0
  rw [List.append_nil] at X'
  obtain ⟨t2, a1, b1⟩ := kk T' (by rw [e1, hh, h0]) X'
  exact ⟨t2, hst t2 a1, b1⟩
theorem z_put {own ref : String} {T : u_T} {N ci index : Nat} (hx : p.tables.exec = Jvm.exec) (hb : c.code = cc) (hts : ∀ w ∈ Ts, w.before args s = true) (hin : ∀ w ∈ u_ws C T N, w ∈ Ts) (ty0 : Nat → FieldType) (hty : ∀ k, k < N → parseFieldDescriptor (T k).2.2.1 = some (ty0 k)) (hnm : ∀ a, a < N → ∀ b, b < N → a ≠ b → (T a).2.1 ≠ (T b).2.1) (hown : s.vm.findClass own = some m.cls) (hK : va_K D vwCl tys s) (hP : va_P D vwCl ws H) {ads : List Nat} (hD : zDD A ads) (hads : ws.map Prod.fst = ads) (hS : va_S A H0 H locs) (q0 : Nat) {fs : List Value} (he : ws[q0]? = some (a, .inr (ci, fs))) (hc : vwCl[ci]? = some (C, T, N)) (k : Nat) (hk : k < N) (hlink : (Cond.fieldLink own index ref (T k).2.1 (T k).2.2.1).before args s = true) (hsame : ∀ x, s.fieldFound? (T k).1 (T k).2.1 (T k).2.2.1 = some x → s.fieldFound? ref (T k).2.1 (T k).2.2.1 = some x) (hfin : (T k).2.2.2 = false) {x : Int32} (hd : parseFieldDescriptor (T k).2.2.1 = some .int) (hl : k < fs.length)
    (hdg : decode cc pc = .ok (.putfield index, 3)) (kk : ∀ (H1 : Heap) (locs1 : List Loc), va_P D vwCl (ws.set q0 (a, .inr (ci, fs.set k (.int x)))) H1 → va_S A H0 H1 locs1 → W p l e R s m args below meth c H1 locs1 cells slots Q (F0 m (pc + 3) ls rest)) : W p l e R s m args below meth c H locs cells slots Q (F0 m pc ls (.int x :: .ref a :: rest)) :=
  va_put hx hb hts hin ty0 hty hnm hown hK hP (hD.to hads) hS q0 he hc k hk hlink hsame hfin hd rfl rfl hl hdg (fun H1 locs1 h1 _ h3 => kk H1 locs1 h1 h3)
theorem z_roV (S : CallFix p m c cc nL s args Ts own) (hM : RO l y wsc rmc D cI w0 (.ref b :: As) r) (cw : CallW R s args own C index y bytes maxL ret wsc rmc 0 0 n) (hK : zK D cI s) (hP : va_P D vwCl w0 H)
    (hrecv : ∃ cell : Cell, H[b]? = some cell ∧ cell.vm.isStatics = false ∧ s.vm.findClass C = some cell.cls) (hn : As.length = n) (hls : ls.size = nL) (hst : st = As.reverse ++ .ref b :: rest) (hcat : (rest.map fun v => v.category).sum ≤ 8) (hdg : decode cc pc = .ok (.invokevirtual index, 3)) (hc : cells ≤ R.cells) (hs : slots ≤ R.slots)
    (kk : W p l e R s m args below meth c H locs cells slots Q (F0 m (pc + 3) ls (r :: rest))) : W p l e R s m args below meth c H locs cells slots Q (F0 m pc ls st) := by
  subst hst
  exact ro_call (fun _ h => h) (va_runV S hM cw ⟨fun a U g mk q => ⟨q.1, q.2.1, q.2.2.call⟩, hrecv, fun U hU hW => ⟨rfl, by rw [hU]; exact hP, hK.warm hW⟩⟩ rfl hn hls rfl (lv_room hcat) hdg ⟨hc, hs⟩) kk
theorem z_roS (S : CallFix p m c cc nL s args Ts own) (hM : RO l y wsc rmc D cI w0 As r) (cw : CallB R s args own index y bytes maxL ret wsc rmc 0 0 n ∧ (Cond.static y).before args s = true) (hK : zK D cI s) (hP : va_P D vwCl w0 H)
    (hn : As.length = n) (hls : ls.size = nL) (hst : st = As.reverse ++ rest) (hcat : (rest.map fun v => v.category).sum ≤ 8) (hdg : decode cc pc = .ok (.invokestatic index, 3)) (hc : cells ≤ R.cells) (hs : slots ≤ R.slots)
    (kk : W p l e R s m args below meth c H locs cells slots Q (F0 m (pc + 3) ls (r :: rest))) : W p l e R s m args below meth c H locs cells slots Q (F0 m pc ls st) := by
  subst hst
  exact ro_call (fun _ h => h) (va_runS S hM cw ⟨fun a U g mk q => ⟨q.1, q.2.1, q.2.2.call⟩, fun U hU hW => ⟨rfl, by rw [hU]; exact hP, hK.warm hW⟩⟩ rfl hn hls rfl (lv_room hcat) hdg ⟨hc, hs⟩) kk
theorem z_roSN {host : String} (S : CallFix p m c cc nL s args Ts own) (hM : RO l y wsc rmc D cI w0 As r) (cw : va_CN R s args own index y host bytes maxL ret wsc rmc 0 0 n ∧ (Cond.static y).before args s = true ∧ True) (hK : zK D cI s) (hP : va_P D vwCl w0 H)
    (hn : As.length = n) (hls : ls.size = nL) (hst : st = As.reverse ++ rest) (hcat : (rest.map fun v => v.category).sum ≤ 8) (hdg : decode cc pc = .ok (.invokestatic index, 3)) (hc : cells ≤ R.cells) (hs : slots ≤ R.slots)
    (kk : W p l e R s m args below meth c H locs cells slots Q (F0 m (pc + 3) ls (r :: rest))) : W p l e R s m args below meth c H locs cells slots Q (F0 m pc ls st) := by
  subst hst
  exact ro_call (fun _ h => h) (va_runSN S hM cw ⟨fun a U g mk q => ⟨q.1, q.2.1, q.2.2.call⟩, fun U hU hW => ⟨rfl, by rw [hU]; exact hP, hK.warm hW⟩⟩ rfl hn hls rfl (lv_room hcat) hdg ⟨hc, hs⟩) kk
theorem mu_call {S : Type} {post : Option Value → S → Prop} {w1 : S → va_W} {st : List Value} {a' : Array Value} {ads : List Nat} (hr : va_Run p l e R s m args below meth c H locs cells slots 0 0 (F0 m pc ls st) rest (muQ D post w1 w0 a') (zin w0)) (hP : va_P D vwCl ws H) (hD : zDD A ads) (hads : ws.map Prod.fst = ads) (hS : va_S A H0 H locs)
    (is : List Nat) (hnd : va_nd is = true) (his : is.map (fun i => ws[i]?) = w0.map some) (hw1 : ∀ u, (w1 u).map Prod.fst = w0.map Prod.fst)
    (kk : ∀ (v : Option Value) (u : S) (H1 : Heap) (locs1 : List Loc), post v u → va_P D vwCl (zput ws is (w1 u)) H1 → va_S A H0 H1 locs1 → W p l e R s m args below meth c H1 locs1 cells slots Q (F0 m (pc + 3) ls (v.toList ++ rest))) : W p l e R s m args below meth c H locs cells slots Q (F0 m pc ls st) := by
  intro T hT X
  have hDw := hD.to hads
  have hsub : ∀ q, zin w0 q → A q := by
    intro q hq
    obtain ⟨x, hx, rfl⟩ := List.mem_map.mp hq
    obtain ⟨j, hj⟩ := List.getElem?_of_mem hx
    have h3 : (is.map (fun i => ws[i]?))[j]? = some (some x) := by rw [his, List.getElem?_map, hj]; rfl
    rw [List.getElem?_map] at h3
    cases hi : is[j]? with
    | none => rw [hi] at h3; cases h3
    | some i => rw [hi] at h3; exact hDw.2 i x (Option.some.inj h3)
  obtain ⟨v, st₀, t, T', L, h0, X', hL, e1, e2, ⟨⟨v', u, hv, hp, hP1⟩, hz, hk⟩, hst⟩ := hr T hT X
  cases hv
  rw [h0] at hz hk
  have hk' : ∀ q : Nat, q < H.size → ¬ zin w0 q → T'.heap[q]? = H[q]? := fun q h1 h2 => by rw [e1]; exact hk q h1 h2
  have hPn := (zput_P hP hDw is hnd his (hw1 u) (by rw [e1]; exact hP1) hk').1
  obtain ⟨t2, a1, b1⟩ := kk v u T'.heap (locs ++ L) hp hPn ⟨Nat.le_trans hS.1 (by rw [e1]; exact hz), fun q h1 h2 => by rw [hk' q (Nat.lt_of_lt_of_le h1 hS.1) (fun z => h2 (hsub q z))]; exact hS.2.1 q h1 h2, fun q hq => by
      rcases List.mem_append.mp hq with h | h
      · exact hS.2.2 q h
      · exact hsub _ (hL q h)⟩ T' rfl X'
  exact ⟨t2, hst t2 a1, b1⟩
theorem z_muV {S : Type} {post : Option Value → S → Prop} {w1 : S → va_W} {ads : List Nat} (S0 : CallFix p m c cc nL s args Ts own) (hM : MU l y wsc rmc D cI w0 (.ref b :: As) post w1) (cw : CallW R s args own C index y bytes maxL ret wsc rmc 0 0 n) (hK : zK D cI s) (hP : va_P D vwCl ws H) (hD : zDD A ads) (hads : ws.map Prod.fst = ads) (hS : va_S A H0 H locs)
    (is : List Nat) (hnd : va_nd is = true) (his : is.map (fun i => ws[i]?) = w0.map some) (hw1 : ∀ u, (w1 u).map Prod.fst = w0.map Prod.fst)
    (hrecv : ∃ cell : Cell, H[b]? = some cell ∧ cell.vm.isStatics = false ∧ s.vm.findClass C = some cell.cls) (hn : As.length = n) (hls : ls.size = nL) (hst : st = As.reverse ++ .ref b :: rest) (hcat : (rest.map fun v => v.category).sum ≤ 8) (hdg : decode cc pc = .ok (.invokevirtual index, 3)) (hc : cells ≤ R.cells) (hs : slots ≤ R.slots)
    (kk : ∀ (v : Option Value) (u : S) (H1 : Heap) (locs1 : List Loc), post v u → va_P D vwCl (zput ws is (w1 u)) H1 → va_S A H0 H1 locs1 → W p l e R s m args below meth c H1 locs1 cells slots Q (F0 m (pc + 3) ls (v.toList ++ rest))) : W p l e R s m args below meth c H locs cells slots Q (F0 m pc ls st) := by
  subst hst
  have hDw := hD.to hads
  have hP0 : va_P D vwCl w0 H := by
    refine hP.sub is ?_
    have h1 := congrArg (List.filterMap id) his
    rw [List.filterMap_map, List.filterMap_map] at h1
    simpa using h1
  exact mu_call (va_runV S0 hM cw ⟨fun a U g mk q => ⟨q.1, q.2.1, q.2.2.1.call, q.2.2.2⟩, hrecv, fun U hU hW => ⟨rfl, by rw [hU]; exact hP0, hK.warm hW, (hDw.sub is hnd his).weaken (fun _ _ _ _ => trivial)⟩⟩ rfl hn hls rfl (lv_room hcat) hdg ⟨hc, hs⟩) hP hD hads hS is hnd his hw1 kk
theorem ro_iret {x : Int32} (hQ : MQ below (roQ (.int x)) args s 0 0 (fun _ => False) = Q) (hx : p.tables.exec = Jvm.exec) (hb : c.code = cc) (hr : meth.sig.returnType = some .int) (hlocks : meth.locks = false) {v : Int32} (hv : v = x) (hdg : decode cc pc = .ok (.ireturn, 1)) : W p l e R s m args below meth c s.heap [] 0 0 Q (F0 m pc ls [.int v]) := by
  subst hQ
  subst hv
  exact W.iret hx hb hr (fun t ht _ => ⟨rfl, ht⟩) (fun _ h => nomatch h) hdg hlocks
theorem ro_zret {P : Prop} (hQ : MQ below (roQ (.int (z1 P))) args s 0 0 (fun _ => False) = Q) (hx : p.tables.exec = Jvm.exec) (hb : c.code = cc) (hr : meth.sig.returnType = some .boolean) (hlocks : meth.locks = false) {v : Int32} (hv : v = z1 P) (hdg : decode cc pc = .ok (.ireturn, 1)) : W p l e R s m args below meth c s.heap [] 0 0 Q (F0 m pc ls [.int v]) := by
  subst hQ
  subst hv
  exact W.zret hx hb hr (z1_nar P) (fun t ht _ => ⟨rfl, ht⟩) (fun _ h => nomatch h) hdg hlocks
theorem ro_lret {x : Int64} (hQ : MQ below (roQ (.long x)) args s 0 0 (fun _ => False) = Q) (hx : p.tables.exec = Jvm.exec) (hb : c.code = cc) (hr : meth.sig.returnType = some .long) (hlocks : meth.locks = false) {v : Int64} (hv : v = x) (hdg : decode cc pc = .ok (.lreturn, 1)) : W p l e R s m args below meth c s.heap [] 0 0 Q (F0 m pc ls [.long v]) := by
  subst hQ
  subst hv
  exact W.lret hx hb hr (fun t ht _ => ⟨rfl, ht⟩) (fun _ h => nomatch h) hdg hlocks
theorem ro_dret {x : UInt64} (hQ : MQ below (roQ (.double x)) args s 0 0 (fun _ => False) = Q) (hx : p.tables.exec = Jvm.exec) (hb : c.code = cc) (hr : meth.sig.returnType = some .double) (hlocks : meth.locks = false) {v : UInt64} (hv : v = x) (hdg : decode cc pc = .ok (.dreturn, 1)) : W p l e R s m args below meth c s.heap [] 0 0 Q (F0 m pc ls [.double v]) := by
  subst hQ
  subst hv
  exact W.dret hx hb hr (fun t ht _ => ⟨rfl, ht⟩) (fun _ h => nomatch h) hdg hlocks
theorem mu_iret {S : Type} {post : Option Value → S → Prop} {w1 : S → va_W} (hA : zin w0 = A) (hQ : MQ below (muQ D post w1 w0) args s 0 0 A = Q) (hx : p.tables.exec = Jvm.exec) (hb : c.code = cc) (hr : meth.sig.returnType = some .int) (hlocks : meth.locks = false) {v : Int32} (u : S) (hP : va_P D vwCl (w1 u) H) (hS : va_S A s.heap H locs) (hp : post (some (.int v)) u) (hdg : decode cc pc = .ok (.ireturn, 1)) : W p l e R s m args below meth c H locs 0 0 Q (F0 m pc ls [.int v]) := by
  subst hQ
  subst hA
  exact W.iret hx hb hr (fun t ht _ => ⟨⟨_, u, rfl, hp, by rw [ht]; exact hP⟩, hS.F ht⟩) hS.2.2 hdg hlocks
theorem mu_zret {S : Type} {post : Option Value → S → Prop} {w1 : S → va_W} (hA : zin w0 = A) (hQ : MQ below (muQ D post w1 w0) args s 0 0 A = Q) (hx : p.tables.exec = Jvm.exec) (hb : c.code = cc) (hr : meth.sig.returnType = some .boolean) (hlocks : meth.locks = false) {v : Int32} {P : Prop} (hv : v = z1 P) (u : S) (hP : va_P D vwCl (w1 u) H) (hS : va_S A s.heap H locs) (hp : post (some (.int (z1 P))) u) (hdg : decode cc pc = .ok (.ireturn, 1)) : W p l e R s m args below meth c H locs 0 0 Q (F0 m pc ls [.int v]) := by
  subst hQ
  subst hA
  subst hv
  exact W.zret hx hb hr (z1_nar P) (fun t ht _ => ⟨⟨_, u, rfl, hp, by rw [ht]; exact hP⟩, hS.F ht⟩) hS.2.2 hdg hlocks
theorem mu_lret {S : Type} {post : Option Value → S → Prop} {w1 : S → va_W} (hA : zin w0 = A) (hQ : MQ below (muQ D post w1 w0) args s 0 0 A = Q) (hx : p.tables.exec = Jvm.exec) (hb : c.code = cc) (hr : meth.sig.returnType = some .long) (hlocks : meth.locks = false) {v : Int64} (u : S) (hP : va_P D vwCl (w1 u) H) (hS : va_S A s.heap H locs) (hp : post (some (.long v)) u) (hdg : decode cc pc = .ok (.lreturn, 1)) : W p l e R s m args below meth c H locs 0 0 Q (F0 m pc ls [.long v]) := by
  subst hQ
  subst hA
  exact W.lret hx hb hr (fun t ht _ => ⟨⟨_, u, rfl, hp, by rw [ht]; exact hP⟩, hS.F ht⟩) hS.2.2 hdg hlocks
theorem mu_dret {S : Type} {post : Option Value → S → Prop} {w1 : S → va_W} (hA : zin w0 = A) (hQ : MQ below (muQ D post w1 w0) args s 0 0 A = Q) (hx : p.tables.exec = Jvm.exec) (hb : c.code = cc) (hr : meth.sig.returnType = some .double) (hlocks : meth.locks = false) {v : UInt64} (u : S) (hP : va_P D vwCl (w1 u) H) (hS : va_S A s.heap H locs) (hp : post (some (.double v)) u) (hdg : decode cc pc = .ok (.dreturn, 1)) : W p l e R s m args below meth c H locs 0 0 Q (F0 m pc ls [.double v]) := by
  subst hQ
  subst hA
  exact W.dret hx hb hr (fun t ht _ => ⟨⟨_, u, rfl, hp, by rw [ht]; exact hP⟩, hS.F ht⟩) hS.2.2 hdg hlocks
theorem mu_vret {S : Type} {post : Option Value → S → Prop} {w1 : S → va_W} (hA : zin w0 = A) (hQ : MQ below (muQ D post w1 w0) args s 0 0 A = Q) (hx : p.tables.exec = Jvm.exec) (hb : c.code = cc) (hr : meth.sig.returnType = none) (hlocks : meth.locks = false) (u : S) (hP : va_P D vwCl (w1 u) H) (hS : va_S A s.heap H locs) (hp : post none u) (hdg : decode cc pc = .ok (.return_, 1)) : W p l e R s m args below meth c H locs 0 0 Q (F0 m pc ls []) := by
  subst hQ
  subst hA
  exact W.vret hx hb hr (fun t ht _ => ⟨⟨_, u, rfl, hp, by rw [ht]; exact hP⟩, hS.F ht⟩) hS.2.2 hdg hlocks
theorem z_copy {index : Nat} (hx : p.tables.exec = Jvm.exec) (hb : c.code = cc) (hml : c.maxLocals = ls.size) (hown : s.vm.findClass own = some m.cls) (hlink : (Cond.methodLink own index arraycopyName).before args s = true) (hnat : (Cond.native arraycopyName).before args s = true) (hstat : (Cond.static arraycopyName).before args s = true) (hini : (Cond.initialized "java/lang/System").before args s = true)
    (hK : va_K D vwCl tys s) (hP : va_P D vwCl ws H) {ads : List Nat} (hD : zDD A ads) (hads : ws.map Prod.fst = ads) (hS : va_S A H0 H locs) (q0 q1 t0 : Nat) {a0 : Nat} {cA : ClassId} {n0 n1 : Nat} {f g : Nat → Int32} (ha0 : ws[q0]? = some (a0, .inl (cA, n0, .inl f))) (ha1 : ws[q1]? = some (a, .inl (cA, n1, .inl g))) (ht : tys[t0]? = some (cA, .int))
    {sp dp k : Nat} (h1 : sp < 2 ^ 31) (h2 : dp < 2 ^ 31) (h3 : k < 2 ^ 31) (h4 : sp + k ≤ n0) (h5 : dp + k ≤ n1)
    (hframes : 1 ≤ R.frames) (hlocals : (rest.map fun v => v.category).sum + (nativeFrameWords "java/lang/System" "arraycopy" 5 + 11) ≤ R.locals) (hdg : decode cc pc = .ok (.invokestatic index, 3))
    (kk : ∀ (H1 : Heap) (locs1 : List Loc), va_P D vwCl (ws.set q1 (a, .inl (cA, n1, .inl (va_cpy f g sp dp k)))) H1 → va_S A H0 H1 locs1 → W p l e R s m args below meth c H1 locs1 cells slots Q (F0 m (pc + 3) ls rest)) : W p l e R s m args below meth c H locs cells slots Q (F0 m pc ls (.int (nI k) :: .int (nI dp) :: .ref a :: .int (nI sp) :: .ref a0 :: rest)) := by
  refine va_copyi hx hb hml hown hlink hnat hstat hini hK hP (hD.to hads) hS q0 q1 t0 t0 ha0 ha1 ht ht rfl (nI_pos h1) (nI_pos h2) (nI_pos h3) (by rw [nI_clamp h1, nI_clamp h3]; exact h4) (by rw [nI_clamp h2, nI_clamp h3]; exact h5) (fun i _ => rfl) hframes hlocals hdg (fun H1 locs1 p1 _ p3 => ?_)
  rw [nI_clamp h1, nI_clamp h2, nI_clamp h3] at p1
  exact kk H1 locs1 p1 p3
theorem z_copyN {index : Nat} (hx : p.tables.exec = Jvm.exec) (hb : c.code = cc) (hml : c.maxLocals = ls.size) (hown : s.vm.findClass own = some m.cls) (hlink : (Cond.methodLink own index arraycopyName).before args s = true) (hnat : (Cond.native arraycopyName).before args s = true) (hstat : (Cond.static arraycopyName).before args s = true) (hini : (Cond.initialized "java/lang/System").before args s = true)
    (hK : va_K D vwCl tys s) (hP : va_P D vwCl ws H) {ads : List Nat} (hD : zDD A ads) (hads : ws.map Prod.fst = ads) (hS : va_S A H0 H locs) (q0 q1 t0 : Nat) {a0 : Nat} {cA : ClassId} {n0 n1 : Nat} {f g : Nat → Nat} (ha0 : ws[q0]? = some (a0, .inl (cA, n0, .inl (nA f)))) (ha1 : ws[q1]? = some (a, .inl (cA, n1, .inl (nA g)))) (ht : tys[t0]? = some (cA, .int))
    {sp dp k : Nat} (h1 : sp < 2 ^ 31) (h2 : dp < 2 ^ 31) (h3 : k < 2 ^ 31) (h4 : sp + k ≤ n0) (h5 : dp + k ≤ n1)
    (hframes : 1 ≤ R.frames) (hlocals : (rest.map fun v => v.category).sum + (nativeFrameWords "java/lang/System" "arraycopy" 5 + 11) ≤ R.locals) (hdg : decode cc pc = .ok (.invokestatic index, 3))
    (kk : ∀ (H1 : Heap) (locs1 : List Loc), va_P D vwCl (ws.set q1 (a, .inl (cA, n1, .inl (nA (va_cpy f g sp dp k))))) H1 → va_S A H0 H1 locs1 → W p l e R s m args below meth c H1 locs1 cells slots Q (F0 m (pc + 3) ls rest)) : W p l e R s m args below meth c H locs cells slots Q (F0 m pc ls (.int (nI k) :: .int (nI dp) :: .ref a :: .int (nI sp) :: .ref a0 :: rest)) := by
  refine z_copy hx hb hml hown hlink hnat hstat hini hK hP hD hads hS q0 q1 t0 ha0 ha1 ht h1 h2 h3 h4 h5 hframes hlocals hdg (fun H1 locs1 p1 p3 => ?_)
  rw [cpy_nA] at p1
  exact kk H1 locs1 p1 p3
end ZROWS
