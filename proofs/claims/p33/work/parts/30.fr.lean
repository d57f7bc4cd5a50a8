/-! the law's side: rows of rows; methods that write nothing that was there, but make cells (FR); worlds that end in a pool of rows -/
def zrf (R : Nat → Nat) : Nat → Option Nat := fun i => some (R i)
theorem zKq {D : va_G} {cI : ClassId} {s : State} (hK : va_K D vwCl [(cI, .int)] s) (hE : zE D s) : va_K D vwCl [(cI, .int), (zQ D, .array .int)] s := by
  obtain ⟨comp, kA, h1, h2, h3, h4⟩ := hE.2.2.2.spec
  refine ⟨hK.1, fun k q hk => ?_⟩
  match k, hk with
  | 0, hk => exact hK.2 0 q hk
  | 1, hk =>
    cases hk
    exact ⟨fun n z => ⟨(fun k h => by cases h), kA, h3, comp, h4⟩, hE.2.2.2.2⟩
  | k + 2, hk => simp at hk
theorem fr_cons {D : va_G} {cl : List vw_C} {q : Nat × va_E} {ws : va_W} {H : Heap} (h1 : va_at D cl q H) (h2 : va_P D cl ws H) : va_P D cl (q :: ws) H := by
  intro k x hk
  cases k with
  | zero => cases hk; exact h1
  | succ k => exact h2 k x hk
theorem fr_one {D : va_G} {cl : List vw_C} {q : Nat × va_E} {H : Heap} (h1 : va_at D cl q H) : va_P D cl [q] H := fr_cons h1 (va_P_nil _ _ _)
theorem fr_tl {D : va_G} {cl : List vw_C} {q : Nat × va_E} {ws : va_W} {H : Heap} (h : va_P D cl (q :: ws) H) : va_P D cl ws H := fun k x hk => h (k + 1) x hk
theorem fr_app {D : va_G} {cl : List vw_C} {w1 w2 : va_W} {H : Heap} (h1 : va_P D cl w1 H) (h2 : va_P D cl w2 H) : va_P D cl (w1 ++ w2) H := h1.app h2
theorem fr_frontP {D : va_G} {cl : List vw_C} {q : Nat × va_E} {ws : va_W} {H : Heap} (h : va_P D cl (ws ++ [q]) H) : va_P D cl (q :: ws) H := by
  refine fr_cons (h ws.length q ?_) (fun k x hk => h k x ?_)
  · simp
  · rw [List.getElem?_append_left (List.getElem?_eq_some_iff.mp hk).1]; exact hk
theorem fr_frontD {A : Nat → Prop} {q : Nat × va_E} {ws : va_W} (h : va_D A (ws ++ [q])) : va_D A (q :: ws) := by
  refine h.by (fun k => match k with | 0 => ws.length | k + 1 => k) (fun k x hk => ?_) (fun i j hi hj hij => ?_)
  · cases k with
    | zero => cases hk; simp
    | succ k =>
      have hk' : ws[k]? = some x := hk
      show (ws ++ [q])[k]? = some x
      rw [List.getElem?_append_left (List.getElem?_eq_some_iff.mp hk').1]; exact hk'
  · simp only [List.length_cons] at hi hj
    cases i with
    | zero => cases j with
      | zero => rfl
      | succ j => dsimp only at hij; omega
    | succ i => cases j with
      | zero => dsimp only at hij; omega
      | succ j => dsimp only at hij; omega
/-- the cells of old, in a heap where only what is new was written -/
theorem fr_old {D : va_G} {cl : List vw_C} {A : Nat → Prop} {w0 : va_W} {H0 H : Heap} {locs : List Loc} (hP0 : va_P D cl w0 H0) (hS : va_S A H0 H locs) (hA2 : ∀ q, A q → H0.size ≤ q) : va_P D cl w0 H :=
  hP0.kept (fun k q hk => hS.2.1 q.1 (hP0 k q hk).lt (fun h => Nat.lt_irrefl _ (Nat.lt_of_lt_of_le (hP0 k q hk).lt (hA2 _ h))))
/-- the rows of a code book: row i at R i, its words as the book has them -/
def rwE (cI : ClassId) (Lf : Nat → Nat) (T : Nat → Int32) (i : Nat) : va_E := .inl (cI, Lf i, .inl (fun p => T (i * 4 + p)))
def rwW (cI : ClassId) (R : Nat → Nat) (Lf : Nat → Nat) (T : Nat → Int32) (k : Nat) : va_W := (List.range k).map (fun i => (R i, rwE cI Lf T i))
theorem rw_at {cI : ClassId} {R Lf : Nat → Nat} {T : Nat → Int32} {k i : Nat} (hi : i < k) : (rwW cI R Lf T k)[i]? = some (R i, rwE cI Lf T i) := by
  unfold rwW
  rw [List.getElem?_map, List.getElem?_range hi]; rfl
theorem rw_of {cI : ClassId} {R Lf : Nat → Nat} {T : Nat → Int32} {k j : Nat} {q : Nat × va_E} (h : (rwW cI R Lf T k)[j]? = some q) : j < k ∧ q = (R j, rwE cI Lf T j) := by
  have hl := (List.getElem?_eq_some_iff.mp h).1
  unfold rwW at hl
  rw [List.length_map, List.length_range] at hl
  rw [rw_at hl] at h
  exact ⟨hl, (Option.some.inj h).symm⟩
theorem rw_ads (cI : ClassId) (R Lf : Nat → Nat) (T : Nat → Int32) (k : Nat) : (rwW cI R Lf T k).map Prod.fst = (List.range k).map R := by
  unfold rwW
  rw [List.map_map]; rfl
/-- one row out of a world whose tail is the pool -/
theorem rw_get {D : va_G} {cI : ClassId} {R Lf : Nat → Nat} {T : Nat → Int32} {k : Nat} {ws : va_W} {H : Heap} (n : Nat) (h : va_P D vwCl ws H) (hd : ws.drop n = rwW cI R Lf T k) {i : Nat} (hi : i < k) : va_P D vwCl [(R i, .inl (cI, Lf i, .inl (fun p => T (i * 4 + p))))] H := by
  refine fr_one (h (n + i) (R i, rwE cI Lf T i) ?_)
  rw [← List.getElem?_drop, hd]
  exact rw_at hi
theorem rw_mk {D : va_G} {cI : ClassId} {R Lf : Nat → Nat} {T : Nat → Int32} {k : Nat} {H : Heap} (h : ∀ i, i < k → va_P D vwCl [(R i, .inl (cI, Lf i, .inl (fun p => T (i * 4 + p))))] H) : va_P D vwCl (rwW cI R Lf T k) H := by
  intro j q hj
  obtain ⟨hl, rfl⟩ := rw_of hj
  exact h j hl 0 _ rfl
/-- what is behind a cell's length is nobody's business -/
theorem cell_i {cA : ClassId} {n : Nat} {f g : Nat → Int32} (h : ∀ j, j < n → f j = g j) : vp_cell cA (n, .inl f) = vp_cell cA (n, .inl g) := by
  rw [vp_cell_i, vp_cell_i]
  unfold arrV
  congr 1
  apply Array.ext
  · simp
  · intro i h1 h2
    simp at h1
    simp [h i h1]
theorem cell_q {cA : ClassId} {n : Nat} {f g : Nat → Option Nat} (h : ∀ j, j < n → f j = g j) : vp_cell cA (n, .inr (.inr (.inr (.inr f)))) = vp_cell cA (n, .inr (.inr (.inr (.inr g)))) := by
  rw [vp_cell_q, vp_cell_q]
  unfold arrV
  congr 1
  apply Array.ext
  · simp
  · intro i h1 h2
    simp at h1
    simp [h i h1]
theorem fr_eqI {D : va_G} {cl : List vw_C} {a : Nat} {cA : ClassId} {n : Nat} {f g : Nat → Int32} {ws : va_W} {H : Heap} (h : va_P D cl ((a, .inl (cA, n, .inl f)) :: ws) H) (hg : ∀ j, j < n → f j = g j) : va_P D cl ((a, .inl (cA, n, .inl g)) :: ws) H :=
  fr_cons (by have h1 : H[a]? = some (vp_cell cA (n, .inl f)) := h 0 _ rfl; show H[a]? = some (vp_cell cA (n, .inl g)); rw [h1, cell_i hg]) (fr_tl h)
theorem fr_eqQ {D : va_G} {cl : List vw_C} {a : Nat} {cA : ClassId} {n : Nat} {f g : Nat → Option Nat} {ws : va_W} {H : Heap} (h : va_P D cl ((a, .inl (cA, n, .inr (.inr (.inr (.inr f))))) :: ws) H) (hg : ∀ j, j < n → f j = g j) : va_P D cl ((a, .inl (cA, n, .inr (.inr (.inr (.inr g))))) :: ws) H :=
  fr_cons (by have h1 : H[a]? = some (vp_cell cA (n, .inr (.inr (.inr (.inr f))))) := h 0 _ rfl; show H[a]? = some (vp_cell cA (n, .inr (.inr (.inr (.inr g))))); rw [h1, cell_q hg]) (fr_tl h)
def frQ (D : va_G) {S : Type} (post : Option Value → S → Prop) (w1 : S → va_W) (A : Nat → Prop) : Array Value → State → Outcome → State → Prop := fun _ st o t =>
  (∃ (v : Option Value) (u : S), o = .returned v ∧ post v u ∧ va_P D vwCl (w1 u) t.heap ∧ va_D A (w1 u)) ∧ va_F A st t
def FR (l : Launch) (y : MethodName) (ws : List Cond) (rm : Room) (D : va_G) (cI : ClassId) (w0 : va_W) (as : List Value) (sz : Nat) {S : Type} (post : Option Value → S → Prop) (w1 : S → va_W) (mc ms : Nat) : Prop :=
  Met l y ws rm (va_Pc as (fun U => U.heap.size = sz ∧ va_P D vwCl w0 U.heap ∧ zK D cI U)) (frQ D post w1 (fun q => sz ≤ q)) mc ms (fun q => sz ≤ q)
theorem fr_of {l : Launch} {y : MethodName} {ws ws' : List Cond} {rm : Room} {D : va_G} {cI : ClassId} {w0 : va_W} {as : List Value} {sz mc ms : Nat} {S : Type} {post : Option Value → S → Prop} {w1 : S → va_W} {cc : ByteArray} {maxL : Nat} {ret : Option FieldType} {C : String}
    (hC : y.cls = C) (hy : plainName y.cls = true) (hw : ws = Cond.code y cc maxL ret :: ws') (hn : (lg_sl as).length ≤ maxL)
    (body : ∀ (p : Program) (e : Env) (s : State) (m : MethodId) (args : Array Value) (below : List Frame) (meth : Method) (c : Code) (ls : Array Slot) (Q : State → Prop) (A : Nat → Prop), (∀ q : Nat, s.heap.size ≤ q → A q) → (∀ q : Nat, A q → s.heap.size ≤ q) → MQ below (frQ D post w1 A) args s mc ms A = Q → p.tables.exec = Jvm.exec → c.code = cc → meth.sig.returnType = ret → meth.locks = false → c.maxLocals = maxL → (∀ w ∈ ws, w.before args s = true) → s.vm.findClass C = some m.cls → meth.name = y.name →
      va_K D vwCl [(cI, .int)] s → zE D s → va_P D vwCl w0 s.heap → va_D A [] → ∀ (H : Heap) (locs : List Loc), va_P D vwCl [] H → va_S A s.heap H locs → lv_has ls maxL (lv_args 0 as) → W p l e rm s m args below meth c H locs 0 0 Q (F0 m 0 ls [])) : FR l y ws rm D cI w0 as sz post w1 mc ms := by
  refine Met.ofW (cc := cc) (maxL := maxL) (ret := ret) hy hw ?_
  intro p e s m args below meth c s₁ B hml hv
  obtain ⟨rfl, hsz, hP, hK, hE⟩ := hv
  have hl := lv_entry as (n := maxL) hn
  rw [lg_entry_eq]
  subst hC
  subst hsz
  exact body p e s m as.toArray below meth c _ _ _ (fun q h => h) (fun q h => h) rfl B.exec B.bytes B.returns B.notSynchronized hml (atoms_spec (ws := ws) B.pre) (findClass_of_methodNamed B.named) (name_of_methodNamed B.named B.method).1 hK hE hP ⟨fun i j p q h => (by simp at h), fun k q h => (by simp at h)⟩ s.heap [] (va_P_nil _ _ _) va_S.rf hl
section ZFR
variable {p : Program} {l : Launch} {e : Env} {R : Room} {s : State} {m : MethodId} {args : Array Value} {below : List Frame} {meth : Method} {c : Code} {H : Heap} {locs : List Loc} {cells slots : Nat} {Q : State → Prop}
variable {cc : ByteArray} {pc : Nat} {ls : Array Slot} {rest : List Value} {D : va_G} {A : Nat → Prop} {ws : va_W} {H0 : Heap} {cI : ClassId} {a : Nat} {tys : List (ClassId × FieldType)} {ads : List Nat}
theorem zq_ald (hx : p.tables.exec = Jvm.exec) (hb : c.code = cc) (hK : va_K D vwCl [(cI, .int)] s) (hE : zE D s) (hP : va_P D vwCl ws H) (q0 : Nat) {n : Nat} {f : Nat → Option Nat} (ha : ws[q0]? = some (a, .inl (zQ D, n, .inr (.inr (.inr (.inr f)))))) {i r : Nat} (hi : i < n) (hn : n < 2 ^ 31) (hr : f i = some r) (hdg : decode cc pc = .ok (.aaload, 1))
    (kk : W p l e R s m args below meth c H locs cells slots Q (F0 m (pc + 1) ls (.ref r :: rest))) : W p l e R s m args below meth c H locs cells slots Q (F0 m pc ls (.int (nI i) :: .ref a :: rest)) := by
  have hin : vp_in (nI i) n := vp_in_nI hi hn
  have hcl : (nI i).toNatClampNeg = i := nI_clamp (Nat.lt_trans hi hn)
  have hlt : (nI i).toNatClampNeg < n := by rw [hcl]; exact hi
  exact W.aald (v := va_rf (some r)) (ty := .array .int) hx hb (hP q0 _ ha) (((zKq hK hE).2 1 _ rfl).1 n (fun j => va_rf (f j))) rfl (fun q => by cases q) (by show ¬ (nI i < 0 ∨ (arrV _ _ _).slots.size ≤ _); rw [arrV_size]; exact hin) (by show (arrV _ _ _).slots[_]? = _; rw [arrV_read _ _ hlt, hcl, hr]) rfl rfl hdg kk
theorem zq_len (hx : p.tables.exec = Jvm.exec) (hb : c.code = cc) (hK : va_K D vwCl [(cI, .int)] s) (hE : zE D s) (hP : va_P D vwCl ws H) (q0 : Nat) {n : Nat} {f : Nat → Option Nat} (ha : ws[q0]? = some (a, .inl (zQ D, n, .inr (.inr (.inr (.inr f)))))) (hdg : decode cc pc = .ok (.arraylength, 1))
    (kk : W p l e R s m args below meth c H locs cells slots Q (F0 m (pc + 1) ls (.int (nI n) :: rest))) : W p l e R s m args below meth c H locs cells slots Q (F0 m pc ls (.ref a :: rest)) :=
  va_alen (v := nI n) hx hb (zKq hK hE) hP q0 1 ha rfl rfl hdg kk
theorem zf_asg (vm : Vm) (x : ClassId) : vm.assignable x x = true := by
  unfold Vm.assignable Vm.assignableAux
  simp
theorem zq_ast {wv : va_W} (hx : p.tables.exec = Jvm.exec) (hb : c.code = cc) (hK : va_K D vwCl [(cI, .int)] s) (hE : zE D s) (hP : va_P D vwCl ws H) (hD : zDD A ads) (hads : ws.map Prod.fst = ads) (hS : va_S A H0 H locs) (q0 : Nat) {n : Nat} {f : Nat → Option Nat} (ha : ws[q0]? = some (a, .inl (zQ D, n, .inr (.inr (.inr (.inr f)))))) (hPv : va_P D vwCl wv H) (qv : Nat) {v nv : Nat} {g : Nat → Int32} (hv : wv[qv]? = some (v, .inl (cI, nv, .inl g))) {i : Nat} (hi : i < n) (hn : n < 2 ^ 31) (hdg : decode cc pc = .ok (.aastore, 1))
    (kk : ∀ (H1 : Heap) (locs1 : List Loc), va_P D vwCl (ws.set q0 (a, .inl (zQ D, n, .inr (.inr (.inr (.inr (va_up f i (some v)))))))) H1 → va_S A H0 H1 locs1 → H1.size = H.size → (∀ q, q ≠ a → H1[q]? = H[q]?) → W p l e R s m args below meth c H1 locs1 cells slots Q (F0 m (pc + 1) ls rest)) : W p l e R s m args below meth c H locs cells slots Q (F0 m pc ls (.ref v :: .int (nI i) :: .ref a :: rest)) := by
  have hin : vp_in (nI i) n := vp_in_nI hi hn
  have hcl : (nI i).toNatClampNeg = i := nI_clamp (Nat.lt_trans hi hn)
  obtain ⟨comp, kA, h1, h2, h3, h4⟩ := hE.2.2.2.spec
  have hI : s.vm.findClass (FieldType.array .int).toString = some cI := (hK.2 0 _ rfl).2
  have hcc : comp = cI := Option.some.inj (h1.symm.trans hI)
  subst hcc
  obtain ⟨-, kI, hkI, -⟩ := (hK.2 0 _ rfl).1 nv (fun j => .int (g j))
  have hkI' : s.vm.classes[comp]? = some kI := hkI
  have hvc : H[v]? = some (vp_cell comp (nv, .inl g)) := hPv qv _ hv
  refine W.aast hx hb (hP q0 _ ha) (fun q h => by cases h) (fun h => by cases h) h3 h4 rfl hkI' ⟨fun q => hin (Or.inl q), by show _ < (arrV _ _ _).slots.size; rw [arrV_size, hcl]; exact hi⟩ hvc (fun q h => by cases h) (by rw [vp_cell_i]; exact hkI') (by rw [vp_cell_i]; exact zf_asg _ _) rfl rfl hdg fun H1 e z oq => ?_
  refine kk H1 _ (hP.set (hD.to hads) ha ?_ oq) (hS.put z oq ((hD.to hads).2 q0 _ ha)) z oq
  show H1[a]? = some (vp_cell _ _)
  rw [e]
  rw [vp_cell_q, vp_cell_q, arrV_store, hcl]
  congr 2
  funext q
  by_cases hq : q = i
  · subst hq
    simp [updV, va_up, va_rf]
  · simp [updV, va_up, hq]
theorem zq_new {own : String} {index : Nat} (hx : p.tables.exec = Jvm.exec) (hb : c.code = cc) (hown : s.vm.findClass own = some m.cls) (hclink : (Cond.classLink own index "[I").before args s = true) (hE : zE D s) (hP : va_P D vwCl ws H) (hD : va_D A ws) (hS : va_S A H0 H locs) (hA : ∀ q, H0.size ≤ q → A q)
    {n B : Nat} (hn : n < 1000) (hB : n ≤ B) (hcells : cells + 1 ≤ R.cells) (hslots : slots + B ≤ R.slots) (hdg : decode cc pc = .ok (.anewarray index, 3))
    (kk : ∀ (q : Nat) (H1 : Heap), H.size = q → va_P D vwCl ((q, .inl (zQ D, n, .inr (.inr (.inr (.inr (fun _ => none)))))) :: ws) H1 → va_D A ((q, .inl (zQ D, n, .inr (.inr (.inr (.inr (fun _ => none)))))) :: ws) → va_S A H0 H1 locs →
      W p l e R s m args below meth c H1 locs (cells + 1) (slots + B) Q (F0 m (pc + 3) ls (.ref q :: rest))) : W p l e R s m args below meth c H locs cells slots Q (F0 m pc ls (.int (nI n) :: rest)) := by
  have hcl : (nI n).toNatClampNeg = n := nI_clamp (by omega)
  refine W.anewA (t := .int) hx hb hown hclink hE.2.2.2.1 rfl hdg rfl (nI_pos (by omega)) (by rw [hcl]; omega) hcells (by rw [hcl]; omega) fun cA kA comp f1 f2 f3 f4 => ?_
  rw [hcl]
  have hcA : cA = zQ D := Option.some.inj (f1.symm.trans hE.2.2.2.2)
  subst hcA
  generalize hH1 : H.push ({ cls := zQ D, slots := Array.replicate n .null, vm := .none } : Cell) = H1
  have z1 : H1.size = H.size + 1 := by rw [← hH1, Array.size_push]
  have e1 : H1[H.size]? = some (arrV (zQ D) n (fun _ => .null)) := by rw [← hH1, Array.getElem?_push_size, ← arrV_new]
  have o1 : ∀ q : Nat, q < H.size → H1[q]? = H[q]? := fun q hq => by rw [← hH1, Array.getElem?_push, if_neg (Nat.ne_of_lt hq)]
  have hk : ∀ (k : Nat) (x : Nat × va_E), ws[k]? = some x → H1[x.1]? = H[x.1]? := fun k x hx => o1 x.1 ((hP k x hx).lt)
  refine W.widen (Nat.le_refl _) (Nat.add_le_add_left hB slots) (kk H.size H1 rfl (fr_cons ?_ (hP.kept hk)) (fr_frontD (hD.push hP rfl (hA _ hS.1))) ⟨Nat.le_trans hS.1 (by omega), fun x h1 h2 => (o1 x (Nat.lt_of_lt_of_le h1 hS.1)).trans (hS.2.1 x h1 h2), hS.2.2⟩)
  show H1[H.size]? = some (vp_cell _ _)
  rw [vp_cell_q]
  exact e1
theorem zf_newa (hx : p.tables.exec = Jvm.exec) (hb : c.code = cc) (harr : (Cond.arrayClass .int).before args s = true) (hK : va_K D vwCl [(cI, .int)] s) (hP : va_P D vwCl ws H) (hD : va_D A ws) (hS : va_S A H0 H locs) (hA : ∀ q, H0.size ≤ q → A q) {n B : Nat} (hn : n < 1000) (hB : n ≤ B) (hcells : cells + 1 ≤ R.cells) (hslots : slots + B ≤ R.slots) (hdg : decode cc pc = .ok (.newarray .int, 2))
    (kk : ∀ (q : Nat) (H1 : Heap), va_P D vwCl ((q, .inl (cI, n, .inl (fun _ => 0))) :: ws) H1 → va_D A ((q, .inl (cI, n, .inl (fun _ => 0))) :: ws) → va_S A H0 H1 locs → W p l e R s m args below meth c H1 locs (cells + 1) (slots + B) Q (F0 m (pc + 2) ls (.ref q :: rest))) : W p l e R s m args below meth c H locs cells slots Q (F0 m pc ls (.int (nI n) :: rest)) :=
  z_newa hx hb harr hK hP hD hS hA hn hcells (by omega) hdg (fun q H1 k2 k3 k4 => W.widen (Nat.le_refl _) (Nat.add_le_add_left hB slots) (kk q H1 (fr_frontP k2) (fr_frontD k3) k4))
theorem zf_newaN (hx : p.tables.exec = Jvm.exec) (hb : c.code = cc) (harr : (Cond.arrayClass .int).before args s = true) (hK : va_K D vwCl [(cI, .int)] s) (hP : va_P D vwCl ws H) (hD : va_D A ws) (hS : va_S A H0 H locs) (hA : ∀ q, H0.size ≤ q → A q) {n B : Nat} (hn : n < 1000) (hB : n ≤ B) (hcells : cells + 1 ≤ R.cells) (hslots : slots + B ≤ R.slots) (hdg : decode cc pc = .ok (.newarray .int, 2))
    (kk : ∀ (q : Nat) (H1 : Heap), va_P D vwCl ((q, .inl (cI, n, .inl (nA (fun _ => 0)))) :: ws) H1 → va_D A ((q, .inl (cI, n, .inl (nA (fun _ => 0)))) :: ws) → va_S A H0 H1 locs → W p l e R s m args below meth c H1 locs (cells + 1) (slots + B) Q (F0 m (pc + 2) ls (.ref q :: rest))) : W p l e R s m args below meth c H locs cells slots Q (F0 m pc ls (.int (nI n) :: rest)) :=
  zf_newa hx hb harr hK hP hD hS hA hn hB hcells hslots hdg (fun q H1 k2 k3 k4 => kk q H1 k2 k3 k4)
theorem fr_iret {S : Type} {post : Option Value → S → Prop} {w1 : S → va_W} {mc ms : Nat} (hQ : MQ below (frQ D post w1 A) args s mc ms A = Q) (hx : p.tables.exec = Jvm.exec) (hb : c.code = cc) (hr : meth.sig.returnType = some .int) (hlocks : meth.locks = false) {v : Int32} (hc : cells ≤ mc) (hs : slots ≤ ms) (u : S) (hP : va_P D vwCl (w1 u) H) (hD : va_D A (w1 u)) (hS : va_S A s.heap H locs) (hp : post (some (.int v)) u) (hdg : decode cc pc = .ok (.ireturn, 1)) : W p l e R s m args below meth c H locs cells slots Q (F0 m pc ls [.int v]) := by
  subst hQ
  exact W.widen hc hs (W.iret hx hb hr (fun t ht _ => ⟨⟨_, u, rfl, hp, by rw [ht]; exact hP, hD⟩, hS.F ht⟩) hS.2.2 hdg hlocks)
theorem fr_zret {S : Type} {post : Option Value → S → Prop} {w1 : S → va_W} {mc ms : Nat} (hQ : MQ below (frQ D post w1 A) args s mc ms A = Q) (hx : p.tables.exec = Jvm.exec) (hb : c.code = cc) (hr : meth.sig.returnType = some .boolean) (hlocks : meth.locks = false) {v : Int32} {P : Prop} (hv : v = z1 P) (hc : cells ≤ mc) (hs : slots ≤ ms) (u : S) (hP : va_P D vwCl (w1 u) H) (hD : va_D A (w1 u)) (hS : va_S A s.heap H locs) (hp : post (some (.int (z1 P))) u) (hdg : decode cc pc = .ok (.ireturn, 1)) : W p l e R s m args below meth c H locs cells slots Q (F0 m pc ls [.int v]) := by
  subst hQ
  subst hv
  exact W.widen hc hs (W.zret hx hb hr (z1_nar P) (fun t ht _ => ⟨⟨_, u, rfl, hp, by rw [ht]; exact hP, hD⟩, hS.F ht⟩) hS.2.2 hdg hlocks)
theorem fr_aret {S : Type} {post : Option Value → S → Prop} {w1 : S → va_W} {mc ms : Nat} {rt : FieldType} (hQ : MQ below (frQ D post w1 A) args s mc ms A = Q) (hx : p.tables.exec = Jvm.exec) (hb : c.code = cc) (hr : meth.sig.returnType = some rt) (hrt : (∃ n, rt = .object n) ∨ ∃ t, rt = .array t) (hlocks : meth.locks = false) {v : Nat} (hc : cells ≤ mc) (hs : slots ≤ ms) (u : S) (hP : va_P D vwCl (w1 u) H) (hD : va_D A (w1 u)) (hS : va_S A s.heap H locs) (hp : post (some (.ref v)) u) (hdg : decode cc pc = .ok (.areturn, 1)) : W p l e R s m args below meth c H locs cells slots Q (F0 m pc ls [.ref v]) := by
  subst hQ
  exact W.widen hc hs (W.aret hx hb hr hrt (Or.inr ⟨v, rfl⟩) (fun t ht _ => ⟨⟨_, u, rfl, hp, by rw [ht]; exact hP, hD⟩, hS.F ht⟩) hS.2.2 hdg hlocks)
theorem fr_call {S : Type} {post : Option Value → S → Prop} {w1 : S → va_W} {st : List Value} {a' : Array Value} {mc ms : Nat} (hr : va_Run p l e R s m args below meth c H locs cells slots mc ms (F0 m pc ls st) rest (frQ D post w1 (fun q => H.size ≤ q) a') (fun q => H.size ≤ q)) (hP : va_P D vwCl ws H) (hD : va_D A ws) (hS : va_S A H0 H locs) (hA : ∀ q, H0.size ≤ q → A q)
    (kk : ∀ (v : Option Value) (u : S) (H1 : Heap) (locs1 : List Loc), post v u → va_P D vwCl (w1 u ++ ws) H1 → va_D A (w1 u ++ ws) → va_S A H0 H1 locs1 → W p l e R s m args below meth c H1 locs1 (cells + mc) (slots + ms) Q (F0 m (pc + 3) ls (v.toList ++ rest))) : W p l e R s m args below meth c H locs cells slots Q (F0 m pc ls st) := by
  intro T hT X
  obtain ⟨v, st₀, t, T', L, h0, X', hL, e1, e2, ⟨⟨v', u, hv, hp, hP1, hD1⟩, hz, hk⟩, hst⟩ := hr T hT X
  cases hv
  rw [h0] at hz hk
  have hk' : ∀ q : Nat, q < H.size → T'.heap[q]? = H[q]? := fun q h1 => by rw [e1]; exact hk q h1 (Nat.not_le.mpr h1)
  have hPo : va_P D vwCl ws T'.heap := hP.kept (fun k q hq => hk' q.1 (hP k q hq).lt)
  have hFA : ∀ q, H.size ≤ q → A q := fun q h => hA q (Nat.le_trans hS.1 h)
  have hDn : va_D A (w1 u ++ ws) := (hD1.weaken (fun k q hq h => hFA _ h)).app hD (fun i j x y hx hy hxy => by
    have h1 : H.size ≤ x.1 := hD1.2 i x hx
    have h2 : y.1 < H.size := (hP j y hy).lt
    omega)
  obtain ⟨t2, a1, b1⟩ := kk v u T'.heap (locs ++ L) hp ((by rw [e1]; exact hP1 : va_P D vwCl (w1 u) T'.heap).app hPo) hDn ⟨Nat.le_trans hS.1 (by rw [e1]; exact hz), fun q h1 h2 => by rw [hk' q (Nat.lt_of_lt_of_le h1 hS.1)]; exact hS.2.1 q h1 h2, fun q hq => by
      rcases List.mem_append.mp hq with h | h
      · exact hS.2.2 q h
      · exact hFA _ (hL q h)⟩ T' rfl X'
  exact ⟨t2, hst t2 a1, b1⟩
theorem ma_callW {S : Type} {post : Option Value → S → Prop} {w1 : S → va_W} {st : List Value} {a' : Array Value} {mc ms : Nat} (hr : va_Run p l e R s m args below meth c H locs cells slots mc ms (F0 m pc ls st) rest (maQ D post w1 (va_A ws H.size) a') (va_A ws H.size)) (hD : va_D A ws) (hS : va_S A H0 H locs) (hA : ∀ q, H0.size ≤ q → A q)
    (kk : ∀ (v : Option Value) (u : S) (H1 : Heap) (locs1 : List Loc), post v u → va_P D vwCl (w1 u) H1 → va_D A (w1 u) → va_S A H0 H1 locs1 → W p l e R s m args below meth c H1 locs1 (cells + mc) (slots + ms) Q (F0 m (pc + 3) ls (v.toList ++ rest))) : W p l e R s m args below meth c H locs cells slots Q (F0 m pc ls st) := by
  intro T hT X
  have hF : ∀ q, va_A ws H.size q → A q := fun q h => by
    rcases h with ⟨k, e, h⟩ | h
    · exact hD.2 k _ h
    · exact hA q (Nat.le_trans hS.1 h)
  obtain ⟨v, st₀, t, T', L, h0, X', hL, e1, e2, ⟨⟨v', u, hv, hp, hP1, hD1⟩, hz, hk⟩, hst⟩ := hr T hT X
  cases hv
  rw [h0] at hz hk
  have hk' : ∀ q : Nat, q < H.size → ¬ va_A ws H.size q → T'.heap[q]? = H[q]? := fun q h1 h2 => by rw [e1]; exact hk q h1 h2
  obtain ⟨t2, a1, b1⟩ := kk v u T'.heap (locs ++ L) hp (by rw [e1]; exact hP1) (hD1.weaken (fun _ _ _ h => hF _ h)) ⟨Nat.le_trans hS.1 (by rw [e1]; exact hz), fun q h1 h2 => by rw [hk' q (Nat.lt_of_lt_of_le h1 hS.1) (fun z => h2 (hF q z))]; exact hS.2.1 q h1 h2, fun q hq => by
      rcases List.mem_append.mp hq with h | h
      · exact hS.2.2 q h
      · exact hF _ (hL q h)⟩ T' rfl X'
  exact ⟨t2, hst t2 a1, b1⟩
theorem ma_zret {S : Type} {post : Option Value → S → Prop} {w1 : S → va_W} {mc ms : Nat} (hQ : MQ below (maQ D post w1 A) args s mc ms A = Q) (hx : p.tables.exec = Jvm.exec) (hb : c.code = cc) (hr : meth.sig.returnType = some .boolean) (hlocks : meth.locks = false) {v : Int32} {P : Prop} (hv : v = z1 P) (hc : cells ≤ mc) (hs : slots ≤ ms) (u : S) (hP : va_P D vwCl (w1 u) H) (hD : va_D A (w1 u)) (hS : va_S A s.heap H locs) (hp : post (some (.int (z1 P))) u) (hdg : decode cc pc = .ok (.ireturn, 1)) : W p l e R s m args below meth c H locs cells slots Q (F0 m pc ls [.int v]) := by
  subst hQ
  subst hv
  exact W.widen hc hs (W.zret hx hb hr (z1_nar P) (fun t ht _ => ⟨⟨_, u, rfl, hp, by rw [ht]; exact hP, hD⟩, hS.F ht⟩) hS.2.2 hdg hlocks)
theorem ma_aret {S : Type} {post : Option Value → S → Prop} {w1 : S → va_W} {mc ms : Nat} {rt : FieldType} (hQ : MQ below (maQ D post w1 A) args s mc ms A = Q) (hx : p.tables.exec = Jvm.exec) (hb : c.code = cc) (hr : meth.sig.returnType = some rt) (hrt : (∃ n, rt = .object n) ∨ ∃ t, rt = .array t) (hlocks : meth.locks = false) {v : Nat} (hc : cells ≤ mc) (hs : slots ≤ ms) (u : S) (hP : va_P D vwCl (w1 u) H) (hD : va_D A (w1 u)) (hS : va_S A s.heap H locs) (hp : post (some (.ref v)) u) (hdg : decode cc pc = .ok (.areturn, 1)) : W p l e R s m args below meth c H locs cells slots Q (F0 m pc ls [.ref v]) := by
  subst hQ
  exact W.widen hc hs (W.aret hx hb hr hrt (Or.inr ⟨v, rfl⟩) (fun t ht _ => ⟨⟨_, u, rfl, hp, by rw [ht]; exact hP, hD⟩, hS.F ht⟩) hS.2.2 hdg hlocks)
variable {y : MethodName} {bytes : ByteArray} {maxL nL n index mc ms : Nat} {ret : Option FieldType} {wsc : List Cond} {rmc : Room} {Ts : List Cond} {own C : String} {b : Nat} {As st : List Value} {w0 : va_W}
theorem z_frS {S : Type} {post : Option Value → S → Prop} {w1 : S → va_W} (S0 : CallFix p m c cc nL s args Ts own) (hM : FR l y wsc rmc D cI w0 As H.size post w1 mc ms) (cw : CallB R s args own index y bytes maxL ret wsc rmc mc ms n ∧ (Cond.static y).before args s = true) (hK : zK D cI s) (hP0 : va_P D vwCl w0 H) (hP : va_P D vwCl ws H) (hD : va_D A ws) (hS : va_S A H0 H locs) (hA : ∀ q, H0.size ≤ q → A q)
    (hn : As.length = n) (hls : ls.size = nL) (hst : st = As.reverse ++ rest) (hcat : (rest.map fun v => v.category).sum ≤ 8) (hdg : decode cc pc = .ok (.invokestatic index, 3)) (hc : cells + mc ≤ R.cells) (hs : slots + ms ≤ R.slots)
    (kk : ∀ (v : Option Value) (u : S) (H1 : Heap) (locs1 : List Loc), post v u → va_P D vwCl (w1 u ++ ws) H1 → va_D A (w1 u ++ ws) → va_S A H0 H1 locs1 → W p l e R s m args below meth c H1 locs1 (cells + mc) (slots + ms) Q (F0 m (pc + 3) ls (v.toList ++ rest))) : W p l e R s m args below meth c H locs cells slots Q (F0 m pc ls st) := by
  subst hst
  exact fr_call (va_runS S0 hM cw ⟨fun a U g mk q => ⟨q.1, q.2.1, q.2.2.1, q.2.2.2.call⟩, fun U hU hW => ⟨rfl, by rw [hU], by rw [hU]; exact hP0, hK.warm hW⟩⟩ rfl hn hls rfl (lv_room hcat) hdg ⟨hc, hs⟩) hP hD hS hA kk
theorem z_frV {S : Type} {post : Option Value → S → Prop} {w1 : S → va_W} (S0 : CallFix p m c cc nL s args Ts own) (hM : FR l y wsc rmc D cI w0 (.ref b :: As) H.size post w1 mc ms) (cw : CallW R s args own C index y bytes maxL ret wsc rmc mc ms n) (hK : zK D cI s) (hP0 : va_P D vwCl w0 H) (hP : va_P D vwCl ws H) (hD : va_D A ws) (hS : va_S A H0 H locs) (hA : ∀ q, H0.size ≤ q → A q)
    (hrecv : ∃ cell : Cell, H[b]? = some cell ∧ cell.vm.isStatics = false ∧ s.vm.findClass C = some cell.cls) (hn : As.length = n) (hls : ls.size = nL) (hst : st = As.reverse ++ .ref b :: rest) (hcat : (rest.map fun v => v.category).sum ≤ 8) (hdg : decode cc pc = .ok (.invokevirtual index, 3)) (hc : cells + mc ≤ R.cells) (hs : slots + ms ≤ R.slots)
    (kk : ∀ (v : Option Value) (u : S) (H1 : Heap) (locs1 : List Loc), post v u → va_P D vwCl (w1 u ++ ws) H1 → va_D A (w1 u ++ ws) → va_S A H0 H1 locs1 → W p l e R s m args below meth c H1 locs1 (cells + mc) (slots + ms) Q (F0 m (pc + 3) ls (v.toList ++ rest))) : W p l e R s m args below meth c H locs cells slots Q (F0 m pc ls st) := by
  subst hst
  exact fr_call (va_runV S0 hM cw ⟨fun a U g mk q => ⟨q.1, q.2.1, q.2.2.1, q.2.2.2.call⟩, hrecv, fun U hU hW => ⟨rfl, by rw [hU], by rw [hU]; exact hP0, hK.warm hW⟩⟩ rfl hn hls rfl (lv_room hcat) hdg ⟨hc, hs⟩) hP hD hS hA kk
theorem z_maS {S : Type} {post : Option Value → S → Prop} {w1 : S → va_W} (S0 : CallFix p m c cc nL s args Ts own) (hM : MA l y wsc rmc D cI ws As H.size post w1 mc ms) (cw : CallB R s args own index y bytes maxL ret wsc rmc mc ms n ∧ (Cond.static y).before args s = true) (hK : zK D cI s) (hP : va_P D vwCl ws H) (hD : va_D A ws) (hS : va_S A H0 H locs) (hA : ∀ q, H0.size ≤ q → A q)
    (hn : As.length = n) (hls : ls.size = nL) (hst : st = As.reverse ++ rest) (hcat : (rest.map fun v => v.category).sum ≤ 8) (hdg : decode cc pc = .ok (.invokestatic index, 3)) (hc : cells + mc ≤ R.cells) (hs : slots + ms ≤ R.slots)
    (kk : ∀ (v : Option Value) (u : S) (H1 : Heap) (locs1 : List Loc), post v u → va_P D vwCl (w1 u) H1 → va_D A (w1 u) → va_S A H0 H1 locs1 → W p l e R s m args below meth c H1 locs1 (cells + mc) (slots + ms) Q (F0 m (pc + 3) ls (v.toList ++ rest))) : W p l e R s m args below meth c H locs cells slots Q (F0 m pc ls st) := by
  subst hst
  exact ma_callW (va_runS S0 hM cw ⟨fun a U g mk q => ⟨q.1, q.2.1, q.2.2.1, q.2.2.2.1.call, q.2.2.2.2⟩, fun U hU hW => ⟨rfl, by rw [hU], by rw [hU]; exact hP, hK.warm hW, hD.weaken (fun _ _ _ _ => trivial)⟩⟩ rfl hn hls rfl (lv_room hcat) hdg ⟨hc, hs⟩) hD hS hA kk
end ZFR
