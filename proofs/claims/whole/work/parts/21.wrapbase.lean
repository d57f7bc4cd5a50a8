/-! the law's own methods: a call that may throw, and what is kept of it -/
def zKL (D : va_G) (cI cL : ClassId) (U : State) : Prop := va_K D vwCl [(cI, .int), (cL, .long)] U ∧ zE U
theorem zKL.to {D : va_G} {cI cL : ClassId} {U : State} (h : zKL D cI cL U) : zK D cI U := ⟨h.1.sub (tys' := [(cI, .int)]) [0] rfl, h.2⟩
theorem zKL.warm {D : va_G} {cI cL : ClassId} {s U : State} (hW : s.WarmedH U.vm) (h : zKL D cI cL s) : zKL D cI cL U := ⟨va_K.moved hW.alike h.1, h.2.warm hW⟩
theorem zKL.call {D : va_G} {cI cL : ClassId} {U : State} {g : JFrame} {mk : MethodId} {a : Array Value} (h : zKL D cI cL U) : zKL D cI cL (U.calling g mk a) := ⟨va_K.moved (u := U) (U := U.calling g mk a) (Vm.Alike.refl U.vm) h.1, zE.same (s := U) rfl h.2⟩
def LX (l : Launch) (y : MethodName) (ws : List Cond) (rm : Room) (D : va_G) (cI cL : ClassId) (w0 : va_W) (as : List Value) {S : Type} (post : Option Value → S → Prop) (w1 : S → va_W) : Prop :=
  vx_Met l y ws rm (va_Pc as (fun U => va_P D vwCl w0 U.heap ∧ zKL D cI cL U ∧ va_D (fun _ => True) w0 ∧ zT (zin w0) U U.heap)) (muQ D post w1 w0) (fun _ _ _ => False) 1 6 (zin w0)
def lxP {S : Type} (post : Option Value → S → Prop) (px : String → Prop) (cd : String → Int32) : Option Value → Option (S × Int32) → Prop := fun v o => match o with
  | none => ∃ E, px E ∧ v = some (.int (cd E))
  | some u => v = some (.int (nI 0)) ∧ post (some (.int u.2)) u.1
def lxW {S : Type} (w0 : va_W) (w1 : S → va_W) (o : Nat) (cL : ClassId) (fo : Nat → Int64) : Option (S × Int32) → va_W := fun x => match x with
  | none => w0 ++ [(o, .inl (cL, 1, .inr (.inl fo)))]
  | some u => w1 u.1 ++ [(o, .inl (cL, 1, .inr (.inl (vp_updL fo 0 u.2.toInt64))))]
theorem lx_of {l : Launch} {y : MethodName} {ws ws' : List Cond} {rm : Room} {D : va_G} {cI cL : ClassId} {w0 : va_W} {as : List Value} {S : Type} {post : Option Value → S → Prop} {w1 : S → va_W} {cc : ByteArray} {maxL : Nat} {ret : Option FieldType} {C : String} {hh : List (Nat × Nat × Nat × Nat)}
    (hC : y.cls = C) (hy : plainName y.cls = true) (hw : ws = Cond.codeWith y cc maxL ret hh :: ws') (hn : (lg_sl as).length ≤ maxL)
    (body : ∀ (p : Program) (e : Env) (s : State) (m : MethodId) (args : Array Value) (below : List Frame) (meth : Method) (c : Code) (ls : Array Slot) (Q : State → Prop) (A : Nat → Prop), zin w0 = A → vx_MQ below (muQ D post w1 w0) (fun _ _ _ => False) args s 1 6 A = Q → p.tables.exec = Jvm.exec → c.code = cc → meth.sig.returnType = ret → meth.locks = false → c.maxLocals = maxL → (∀ w ∈ ws, w.before args s = true) → s.vm.findClass C = some m.cls →
      va_K D vwCl [(cI, .int), (cL, .long)] s → va_K D vwCl [(cI, .int)] s → zE s → zDD A (w0.map Prod.fst) → c.exceptionTable.toList = tableOf hh → zT A s s.heap → va_P D vwCl w0 s.heap → va_S A s.heap s.heap [] → lv_has ls maxL (lv_args 0 as) → W p l e rm s m args below meth c s.heap [] 0 0 Q (F0 m 0 ls [])) : LX l y ws rm D cI cL w0 as post w1 := by
  refine vx_ofWH (cc := cc) (maxL := maxL) (ret := ret) (hh := hh) hy hw ?_
  intro p e s m args below meth c s₁ B hml hv
  obtain ⟨rfl, hP, hKL, hD, hT⟩ := hv
  have hl := lv_entry as (n := maxL) hn
  rw [lg_entry_eq]
  subst hC
  have hD' : va_D (zin w0) w0 := ⟨hD.1, fun k q hk => List.mem_map.mpr ⟨q, List.mem_of_getElem? hk, rfl⟩⟩
  exact body p e s m as.toArray below meth c _ _ _ rfl rfl B.exec B.bytes B.returns B.notSynchronized hml (atoms_spec (ws := ws) B.pre) (findClass_of_methodNamed B.named) hKL.1 hKL.to.1 hKL.2 (zDD.of hD') (vx_table (x := y) B (atoms_spec (ws := ws) B.pre _ (by rw [hw]; exact List.mem_cons_self))) hT hP va_S.rf hl
section ZLX
variable {p : Program} {l : Launch} {e : Env} {R : Room} {s : State} {m : MethodId} {args : Array Value} {below : List Frame} {meth : Method} {c : Code} {H : Heap} {locs : List Loc} {cells slots : Nat} {Q : State → Prop}
variable {cc : ByteArray} {pc : Nat} {ls : Array Slot} {rest : List Value} {D : va_G} {A : Nat → Prop} {ws : va_W} {H0 : Heap} {cI cL : ClassId}
variable {y : MethodName} {bytes : ByteArray} {maxL nL n index : Nat} {ret : Option FieldType} {wsc : List Cond} {rmc : Room} {Ts : List Cond} {own C : String} {b : Nat} {As st : List Value} {w0 : va_W}
theorem zin_sub {ads : List Nat} (hD : zDD A ads) (hads : ws.map Prod.fst = ads) {is : List Nat} (his : is.map (fun i => ws[i]?) = w0.map some) : ∀ q, zin w0 q → A q := by
  intro q hq
  have hDw := hD.to hads
  obtain ⟨x, hx, rfl⟩ := List.mem_map.mp hq
  obtain ⟨j, hj⟩ := List.getElem?_of_mem hx
  have h3 : (is.map (fun i => ws[i]?))[j]? = some (some x) := by rw [his, List.getElem?_map, hj]; rfl
  rw [List.getElem?_map] at h3
  cases hi : is[j]? with
  | none => rw [hi] at h3; cases h3
  | some i => rw [hi] at h3; exact hDw.2 i x (Option.some.inj h3)
theorem sub_P {is : List Nat} (his : is.map (fun i => ws[i]?) = w0.map some) (hP : va_P D vwCl ws H) : va_P D vwCl w0 H := by
  refine hP.sub is ?_
  have h1 := congrArg (List.filterMap id) his
  rw [List.filterMap_map, List.filterMap_map] at h1
  simpa using h1
theorem z_vxV {S : Type} {post : Option Value → S → Prop} {w1 : S → va_W} {px : String → Prop} {ads : List Nat} (S0 : CallFix p m c cc nL s args Ts own) (hM : VX l y wsc rmc D cI w0 (.ref b :: As) post w1 px) (cw : CallW R s args own C index y bytes maxL ret wsc rmc 1 6 n) (hK : zK D cI s) (hP : va_P D vwCl ws H) (hD : zDD A ads) (hads : ws.map Prod.fst = ads) (hS : va_S A H0 H locs) (hT : zT A s H)
    (is : List Nat) (hnd : va_nd is = true) (his : is.map (fun i => ws[i]?) = w0.map some) (hw1 : ∀ u, (w1 u).map Prod.fst = w0.map Prod.fst)
    (hrecv : ∃ cell : Cell, H[b]? = some cell ∧ cell.vm.isStatics = false ∧ s.vm.findClass C = some cell.cls) (hn : As.length = n) (hls : ls.size = nL) (hst : st = As.reverse ++ .ref b :: rest) (hcat : (rest.map fun v => v.category).sum ≤ 8) (hdg : decode cc pc = .ok (.invokevirtual index, 3)) (hc : cells + 1 ≤ R.cells) (hs : slots + 6 ≤ R.slots)
    (kx : ∀ (E : String) (ce : Cell) (q9 : Addr) (H1 : Heap) (locs1 : List Loc), px E → va_P D vwCl ws H1 → va_S A H0 H1 locs1 → H1[q9]? = some ce → ce.vm = .none → s.vm.findClass E = some ce.cls → vx_W p l e R s m args below meth c H1 locs1 (cells + 1) (slots + 6) Q (F0 m pc ls rest) q9)
    (kk : ∀ (v : Option Value) (u : S) (H1 : Heap) (locs1 : List Loc), post v u → va_P D vwCl (zput ws is (w1 u)) H1 → va_S A H0 H1 locs1 → W p l e R s m args below meth c H1 locs1 (cells + 1) (slots + 6) Q (F0 m (pc + 3) ls (v.toList ++ rest))) : W p l e R s m args below meth c H locs cells slots Q (F0 m pc ls st) := by
  subst hst
  have hDw := hD.to hads
  have hsub := zin_sub hD hads his
  have hP0 := sub_P his hP
  have hr := vx_runV (e := e) (below := below) (meth := meth) (locs := locs) S0 hM cw ⟨fun a U g mk q => ⟨q.1, q.2.1, q.2.2.1.call, q.2.2.2.1, q.2.2.2.2.moved (u := U) (U := U.calling g mk a) (Vm.Alike.refl U.vm)⟩, hrecv, fun U hU hW => ⟨rfl, by rw [hU]; exact hP0, hK.warm hW, (hDw.sub is hnd his).weaken (fun _ _ _ _ => trivial), by rw [hU]; exact (hT.narrow hsub).moved hW.alike⟩⟩ (g := F0 m pc ls (As.reverse ++ .ref b :: rest)) rfl hn hls rfl (lv_room hcat) hdg ⟨hc, hs⟩
  intro T hT9 X
  rcases hr T hT9 X with ⟨v, st₀, t, T', L, h0, X', hL, e1, e2, ⟨⟨v', u, hv, hp, hP1⟩, hz, hk⟩, hst⟩ | ⟨q, st₀, t, T', L, E, ce, h0, X', hL, e1, e2, ⟨hp, hz, hk⟩, hce, hcv, hcl, hst⟩
  · cases hv
    rw [h0] at hz hk
    have hk' : ∀ q : Nat, q < H.size → ¬ zin w0 q → T'.heap[q]? = H[q]? := fun q h1 h2 => by rw [e1]; exact hk q h1 h2
    have hPn := (zput_P hP hDw is hnd his (hw1 u) (by rw [e1]; exact hP1) hk').1
    obtain ⟨t2, a1, b1⟩ := kk v u T'.heap (locs ++ L) hp hPn ⟨Nat.le_trans hS.1 (by rw [e1]; exact hz), fun q h1 h2 => by rw [hk' q (Nat.lt_of_lt_of_le h1 hS.1) (fun z => h2 (hsub q z))]; exact hS.2.1 q h1 h2, fun q hq => by
      rcases List.mem_append.mp hq with h | h
      · exact hS.2.2 q h
      · exact hsub _ (hL q h)⟩ T' rfl X'
    exact ⟨t2, hst t2 a1, b1⟩
  · rw [h0] at hz hk
    have hk' : ∀ q : Nat, q < H.size → T'.heap[q]? = H[q]? := fun q h1 => by rw [e1]; exact hk q h1
    have hPn : va_P D vwCl ws T'.heap := hP.kept (fun k x hx => hk' x.1 (hP k x hx).lt)
    obtain ⟨t2, a1, b1⟩ := kx E ce q T'.heap (locs ++ L) hp hPn ⟨Nat.le_trans hS.1 (by rw [e1]; exact hz), fun q h1 h2 => by rw [hk' q (Nat.lt_of_lt_of_le h1 hS.1)]; exact hS.2.1 q h1 h2, fun q hq => by
      rcases List.mem_append.mp hq with h | h
      · exact hS.2.2 q h
      · exact hsub _ (hL q h)⟩ (by rw [e1]; exact hce) hcv hcl T' rfl X'
    exact ⟨t2, hst.trans a1, b1⟩
theorem lx_iret {S : Type} {post : Option Value → S → Prop} {w1 : S → va_W} (hA : zin w0 = A) (hQ : vx_MQ below (muQ D post w1 w0) (fun _ _ _ => False) args s 1 6 A = Q) (hx : p.tables.exec = Jvm.exec) (hb : c.code = cc) (hr : meth.sig.returnType = some .int) (hlocks : meth.locks = false) {v : Int32} (u : S) (hP : va_P D vwCl (w1 u) H) (hS : va_S A s.heap H locs) (hp : post (some (.int v)) u) (hdg : decode cc pc = .ok (.ireturn, 1)) : W p l e R s m args below meth c H locs 1 6 Q (F0 m pc ls [.int v]) := by
  subst hQ
  subst hA
  refine vx_ret ?_
  exact W.iret hx hb hr (fun t ht _ => ⟨⟨_, u, rfl, hp, by rw [ht]; exact hP⟩, hS.F ht⟩) hS.2.2 hdg hlocks
/-- a call of one of the law's own methods -/
theorem z_lxS {S : Type} {post : Option Value → S → Prop} {w1 : S → va_W} {hh : List (Nat × Nat × Nat × Nat)} {ads : List Nat} (S0 : CallFix p m c cc nL s args Ts own) (hM : LX l y wsc rmc D cI cL w0 As post w1) (cw : vx_CSW R s args own index y bytes maxL ret hh wsc rmc 1 6 n) (hK : zKL D cI cL s) (hP : va_P D vwCl ws H) (hD : zDD A ads) (hads : ws.map Prod.fst = ads) (hS : va_S A H0 H locs) (hT : zT A s H)
    (is : List Nat) (hnd : va_nd is = true) (his : is.map (fun i => ws[i]?) = w0.map some) (hw1 : ∀ u, (w1 u).map Prod.fst = w0.map Prod.fst)
    (hn : As.length = n) (hls : ls.size = nL) (hst : st = As.reverse ++ rest) (hcat : (rest.map fun v => v.category).sum ≤ 8) (hdg : decode cc pc = .ok (.invokestatic index, 3)) (hc : cells + 1 ≤ R.cells) (hs : slots + 6 ≤ R.slots)
    (kk : ∀ (v : Option Value) (u : S) (H1 : Heap) (locs1 : List Loc), post v u → va_P D vwCl (zput ws is (w1 u)) H1 → va_S A H0 H1 locs1 → (∀ q : Nat, q < H.size → ¬ A q → H1[q]? = H[q]?) → W p l e R s m args below meth c H1 locs1 (cells + 1) (slots + 6) Q (F0 m (pc + 3) ls (v.toList ++ rest))) : W p l e R s m args below meth c H locs cells slots Q (F0 m pc ls st) := by
  subst hst
  have hDw := hD.to hads
  have hsub := zin_sub hD hads his
  have hP0 := sub_P his hP
  have hr := vx_runSX (e := e) (below := below) (meth := meth) (locs := locs) S0 hM cw ⟨fun a U g mk q => ⟨q.1, q.2.1, q.2.2.1.call, q.2.2.2.1, q.2.2.2.2.moved (u := U) (U := U.calling g mk a) (Vm.Alike.refl U.vm)⟩, fun U hU hW => ⟨rfl, by rw [hU]; exact hP0, hK.warm hW, (hDw.sub is hnd his).weaken (fun _ _ _ _ => trivial), by rw [hU]; exact (hT.narrow hsub).moved hW.alike⟩⟩ (g := F0 m pc ls (As.reverse ++ rest)) rfl hn hls rfl (lv_room hcat) hdg ⟨hc, hs⟩
  intro T hT9 X
  rcases hr T hT9 X with ⟨v, st₀, t, T', L, h0, X', hL, e1, e2, ⟨⟨v', u, hv, hp, hP1⟩, hz, hk⟩, hst⟩ | ⟨q, st₀, t, T', L, E, ce, h0, X', hL, e1, e2, hF, hce, hcv, hcl, hst⟩
  · cases hv
    rw [h0] at hz hk
    have hk' : ∀ q : Nat, q < H.size → ¬ zin w0 q → T'.heap[q]? = H[q]? := fun q h1 h2 => by rw [e1]; exact hk q h1 h2
    have hPn := (zput_P hP hDw is hnd his (hw1 u) (by rw [e1]; exact hP1) hk').1
    obtain ⟨t2, a1, b1⟩ := kk v u T'.heap (locs ++ L) hp hPn ⟨Nat.le_trans hS.1 (by rw [e1]; exact hz), fun q h1 h2 => by rw [hk' q (Nat.lt_of_lt_of_le h1 hS.1) (fun z => h2 (hsub q z))]; exact hS.2.1 q h1 h2, fun q hq => by
      rcases List.mem_append.mp hq with h | h
      · exact hS.2.2 q h
      · exact hsub _ (hL q h)⟩ (fun q h1 h2 => hk' q h1 (fun z => h2 (hsub q z))) T' rfl X'
    exact ⟨t2, hst t2 a1, b1⟩
  · exact hF.elim
end ZLX
