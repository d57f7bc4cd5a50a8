/-! methods that may throw, before they write: a third form of contract (VX) -/
abbrev zNames : List String := ["java/lang/RuntimeException", "java/lang/Exception"]
/-- Throwable's two statics, outside a part of the heap -/
def zT (A : Nat → Prop) (U : State) (H : Heap) : Prop := vx_Zq Bundle.tN "UNASSIGNED_STACK" Bundle.steD A U H ∧ vx_Zq Bundle.tN "SUPPRESSED_SENTINEL" Bundle.listD A U H
theorem zT.moved {A : Nat → Prop} {u U : State} {H : Heap} (hvm : u.vm.Alike U.vm) (h : zT A u H) : zT A U H := ⟨vx_Zq.moved hvm h.1, vx_Zq.moved hvm h.2⟩
theorem zT.kept {A : Nat → Prop} {U : State} {H H1 : Heap} (h : zT A U H) (hq : ∀ a : Nat, a < H.size → ¬ A a → H1[a]? = H[a]?) : zT A U H1 := ⟨h.1.kept hq, h.2.kept hq⟩
theorem zT.narrow {A B : Nat → Prop} {U : State} {H : Heap} (h : zT A U H) (hAB : ∀ q, B q → A q) : zT B U H := ⟨h.1.narrow hAB, h.2.narrow hAB⟩
def vxX (px : String → Prop) : String → State → State → Prop := fun E st t => px E ∧ st.heap.size ≤ t.heap.size ∧ ∀ q : Nat, q < st.heap.size → t.heap[q]? = st.heap[q]?
def VX (l : Launch) (y : MethodName) (ws : List Cond) (rm : Room) (D : va_G) (cI : ClassId) (w0 : va_W) (as : List Value) {S : Type} (post : Option Value → S → Prop) (w1 : S → va_W) (px : String → Prop) : Prop :=
  vx_Met l y ws rm (va_Pc as (fun U => va_P D vwCl w0 U.heap ∧ zK D cI U ∧ va_D (fun _ => True) w0 ∧ zT (zin w0) U U.heap)) (muQ D post w1 w0) (vxX px) 1 6 (zin w0)
theorem vx_of {l : Launch} {y : MethodName} {ws ws' : List Cond} {rm : Room} {D : va_G} {cI : ClassId} {w0 : va_W} {as : List Value} {S : Type} {post : Option Value → S → Prop} {w1 : S → va_W} {px : String → Prop} {cc : ByteArray} {maxL : Nat} {ret : Option FieldType} {C : String}
    (hC : y.cls = C) (hy : plainName y.cls = true) (hw : ws = Cond.code y cc maxL ret :: ws') (hn : (lg_sl as).length ≤ maxL)
    (body : ∀ (p : Program) (e : Env) (s : State) (m : MethodId) (args : Array Value) (below : List Frame) (meth : Method) (c : Code) (ls : Array Slot) (Q : State → Prop) (A : Nat → Prop), zin w0 = A → vx_MQ below (muQ D post w1 w0) (vxX px) args s 1 6 A = Q → p.tables.exec = Jvm.exec → c.code = cc → meth.sig.returnType = ret → meth.locks = false → c.maxLocals = maxL → (∀ w ∈ ws, w.before args s = true) → s.vm.findClass C = some m.cls →
      va_K D vwCl [(cI, .int)] s → zE s → zDD A (w0.map Prod.fst) → (∀ x ∈ c.exceptionTable.toList, False) → zT A s s.heap → va_P D vwCl w0 s.heap → va_S A s.heap s.heap [] → lv_has ls maxL (lv_args 0 as) → W p l e rm s m args below meth c s.heap [] 0 0 Q (F0 m 0 ls [])) : VX l y ws rm D cI w0 as post w1 px := by
  refine vx_ofW (cc := cc) (maxL := maxL) (ret := ret) hy hw ?_
  intro p e s m args below meth c s₁ B hml hno hv
  obtain ⟨rfl, hP, ⟨hK, hE⟩, hD, hT⟩ := hv
  have hl := lv_entry as (n := maxL) hn
  rw [lg_entry_eq]
  subst hC
  have hD' : va_D (zin w0) w0 := ⟨hD.1, fun k q hk => List.mem_map.mpr ⟨q, List.mem_of_getElem? hk, rfl⟩⟩
  exact body p e s m as.toArray below meth c _ _ _ rfl rfl B.exec B.bytes B.returns B.notSynchronized hml (atoms_spec (ws := ws) B.pre) (findClass_of_methodNamed B.named) hK hE (zDD.of hD') hno hT hP va_S.rf hl
section ZVX
variable {p : Program} {l : Launch} {e : Env} {R : Room} {s : State} {m : MethodId} {args : Array Value} {below : List Frame} {meth : Method} {c : Code} {H : Heap} {locs : List Loc} {Q : State → Prop}
variable {cc : ByteArray} {pc : Nat} {ls : Array Slot} {rest : List Value} {D : va_G} {A : Nat → Prop} {w0 : va_W}
theorem z_throw {S : Type} {post : Option Value → S → Prop} {w1 : S → va_W} {px : String → Prop} {cls text : String} {ik is ic : Nat} (hA : zin w0 = A) (hQ : vx_MQ below (muQ D post w1 w0) (vxX px) args s 1 6 A = Q) (hx : p.tables.exec = Jvm.exec) (hb : c.code = cc) (hlt : l.stackTraces = false) (hown : s.vm.findClass RX4 = some m.cls) (hcls : Bundle.fit cls = true)
    (hk : (Cond.classLink RX4 ik cls).before args s = true) (hini : (Cond.initialized cls).before args s = true) (hE : zE s) (hstr : (is, text) ∈ zStrs) (hat1 : ∀ w ∈ (vx_atS RX4 ic cls zNames).filter goodWord, w.before args s = true) (hat2 : ∀ w ∈ (vx_atS RX4 ic cls zNames).filter (fun w => !goodWord w), w ∈ Cond.castable cls cls :: zDecl.map Cond.declares) (hcE : cls ∈ [zIAE, zISE, zIOB])
    (hgood : ∀ w ∈ Cond.classLink RX4 ik cls :: Cond.initialized cls :: vx_atS RX4 ic cls zNames, vx_ot w = true) (hT : zT A s s.heap) (hls : ls.size = c.maxLocals)
    (d0 : decode cc pc = .ok (.new ik, 3)) (d3 : decode cc (pc + 3) = .ok (.dup, 1)) (d4 : decode cc (pc + 4) = .ok (.ldc is, 2)) (d6 : decode cc (pc + 6) = .ok (.invokespecial ic, 3)) (d9 : decode cc (pc + 9) = .ok (.athrow, 1))
    (hno : ∀ x ∈ c.exceptionTable.toList, False) (hRf : 5 < R.frames) (hRl : (rest.map fun v => v.category).sum + 82 ≤ R.locals) (hRc : 1 ≤ R.cells) (hRs : 6 ≤ R.slots) (hlocks : meth.locks = false) (hpx : px cls) : W p l e R s m args below meth c s.heap [] 0 0 Q (F0 m pc ls rest) := by
  subst hQ
  subst hA
  obtain ⟨-, -, h3, h4, -, h6⟩ := hE
  obtain ⟨sa, hsa⟩ := h3 _ hstr
  refine vx_throwS (A := zin w0) (names := zNames) (sa := sa) (text := text) hx hb hlt hown hcls (by decide) hk hini hsa (vx_hat hat1 hat2 (vx_c (va_Nw.use rfl (h4 cls hcE)) (fun w hw => by obtain ⟨x, hx, rfl⟩ := List.mem_map.mp hw; exact va_Nw.use rfl (h6 x hx)))) hgood hT.1 hT.2 va_S.rf hls d0 d3 d4 d6 d9 (fun x hx => (hno x hx).elim) hRf hRl hRc hRs hlocks (fun t _ h1 h2 => ⟨hpx, h1, h2⟩) (fun _ h => nomatch h) (Nat.le_refl _) (Nat.le_refl _)
theorem vx_iret {S : Type} {post : Option Value → S → Prop} {w1 : S → va_W} {px : String → Prop} (hA : zin w0 = A) (hQ : vx_MQ below (muQ D post w1 w0) (vxX px) args s 1 6 A = Q) (hx : p.tables.exec = Jvm.exec) (hb : c.code = cc) (hr : meth.sig.returnType = some .int) (hlocks : meth.locks = false) {v : Int32} (u : S) (hP : va_P D vwCl (w1 u) H) (hS : va_S A s.heap H locs) (hp : post (some (.int v)) u) (hdg : decode cc pc = .ok (.ireturn, 1)) : W p l e R s m args below meth c H locs 0 0 Q (F0 m pc ls [.int v]) := by
  subst hQ
  subst hA
  refine W.widen (k := 1) (n := 6) (Nat.zero_le _) (Nat.zero_le _) (vx_ret ?_)
  exact W.iret hx hb hr (fun t ht _ => ⟨⟨_, u, rfl, hp, by rw [ht]; exact hP⟩, hS.F ht⟩) hS.2.2 hdg hlocks
end ZVX
def isT (x : Int32) : Prop := ∃ j : Nat, j < 10 ∧ x = nI j
def isTN (x : Int32) : Prop := x = -1 ∨ ∃ j : Nat, j < 10 ∧ x = nI j
def acBad (x1 x2 x3 x4 : Int32) : Prop := (¬ isT x1 ∨ ¬ isT x2) ∨ (¬ isTN x3 ∨ ¬ isTN x4) ∨ (x3 = -1 ∧ ¬ x4 = -1)
def acDup (T : Nat → Int32) (k : Nat) (x1 x2 x3 x4 : Int32) : Prop := 8 ≤ k ∨ ∃ c, c < k ∧ T (c * 4 + 0) = x1 ∧ T (c * 4 + 1) = x2 ∧ T (c * 4 + 2) = x3 ∧ T (c * 4 + 3) = x4
def acT (T : Nat → Int32) (k : Nat) (x1 x2 x3 x4 : Int32) : Nat → Int32 := upd (upd (upd (upd T (k * 4) x1) (k * 4 + 1) x2) (k * 4 + 2) x3) (k * 4 + 3) x4
theorem clen_b (x3 x4 : Int32) : 2 ≤ clen x3 x4 ∧ clen x3 x4 ≤ 4 := by
  unfold clen
  split
  · split <;> decide
  · decide
theorem ac_L {Lf : Nat → Nat} {k : Nat} {x3 x4 : Int32} (hL : ∀ c, c < k → 2 ≤ Lf c ∧ Lf c ≤ 4) : ∀ c, c < k + 1 → 2 ≤ updN Lf k (clen x3 x4) c ∧ updN Lf k (clen x3 x4) c ≤ 4 := by
  intro c hc
  by_cases h : c = k
  · rw [h, updN_s]; exact clen_b x3 x4
  · rw [updN_n _ h]; exact hL c (by omega)
def dcT (T : Nat → Int32) (k j : Nat) : Nat → Int32 := va_cpy T T ((j + 1) * 4) (j * 4) ((k - j - 1) * 4)
def dcL (Lf : Nat → Nat) (k j : Nat) : Nat → Nat := va_cpy Lf Lf (j + 1) j (k - j - 1)
theorem dcL_at (Lf : Nat → Nat) {k j c : Nat} (hc : c < k - 1) : dcL Lf k j c = if c < j then Lf c else Lf (c + 1) := by
  unfold dcL
  by_cases h : c < j
  · rw [if_pos h, pk_cpy_out (Or.inl h)]
  · rw [if_neg h, pk_cpy_in (by omega) (by omega), show j + 1 + (c - j) = c + 1 by omega]
theorem dc_L {Lf : Nat → Nat} {k j : Nat} (hL : ∀ c, c < k → 2 ≤ Lf c ∧ Lf c ≤ 4) : ∀ c, c < k - 1 → 2 ≤ dcL Lf k j c ∧ dcL Lf k j c ≤ 4 := by
  intro c hc
  rw [dcL_at Lf hc]
  by_cases h : c < j
  · rw [if_pos h]; exact hL c (by omega)
  · rw [if_neg h]; exact hL (c + 1) (by omega)
theorem wr_t {t : Nat → Nat} {n j : Nat} (ht : ∀ i, i < n → t i < 10) (hj : j < 10) : ∀ i, i < n + 1 → updN t n j i < 10 := by
  intro i hi
  by_cases h : i = n
  · rw [h, updN_s]; exact hj
  · rw [updN_n _ h]; exact ht i (by omega)
theorem z_q19 {x : Int32} (h1 : ¬ x < nI 1) (h2 : x ≤ nI 9) : ∃ j : Nat, (1 ≤ j ∧ j ≤ 9) ∧ x = nI j := by
  have a1 : ¬ x < 0 := fun z => h1 (Int32.lt_trans z (by decide))
  obtain ⟨j, hj, rfl⟩ := nI_of a1
  exact ⟨j, ⟨Nat.not_lt.mp (fun z => h1 ((nI_ltI hj (by decide)).mpr z)), (nI_leI hj (by decide)).mp h2⟩, rfl⟩
theorem z_n19 {x : Int32} (h : x < nI 1 ∨ ¬ x ≤ nI 9) : ¬ ∃ j : Nat, (1 ≤ j ∧ j ≤ 9) ∧ x = nI j := by
  rintro ⟨j, hj, rfl⟩
  rcases h with h | h
  · have := (nI_ltI (by omega) (by decide)).mp h
    omega
  · exact h ((nI_leI (by omega) (by decide)).mpr hj.2)
theorem z_q24 {x : Int32} (h1 : ¬ x < nI 2) (h2 : x ≤ nI 4) : ∃ j : Nat, (2 ≤ j ∧ j ≤ 4) ∧ x = nI j := by
  have a1 : ¬ x < 0 := fun z => h1 (Int32.lt_trans z (by decide))
  obtain ⟨j, hj, rfl⟩ := nI_of a1
  exact ⟨j, ⟨Nat.not_lt.mp (fun z => h1 ((nI_ltI hj (by decide)).mpr z)), (nI_leI hj (by decide)).mp h2⟩, rfl⟩
theorem z_n24 {x : Int32} (h : x < nI 2 ∨ ¬ x ≤ nI 4) : ¬ ∃ j : Nat, (2 ≤ j ∧ j ≤ 4) ∧ x = nI j := by
  rintro ⟨j, hj, rfl⟩
  rcases h with h | h
  · have := (nI_ltI (by omega) (by decide)).mp h
    omega
  · exact h ((nI_leI (by omega) (by decide)).mpr hj.2)
def dgl (xs : List Int32) (d : Int64) : Int64 := xs.foldl (fun d x => wn2 d x.toInt64) d
noncomputable def dgE (t : Nat → Nat) (n : Nat) (Lf : Nat → Nat) (k : Nat) (C : Nat → Int32) (ps : Nat → Nat) (cnt q sg : Nat) (rp lo ea uc b2 b3 b4 : Int32) : Int64 :=
  fL (dpN C ps) (fL (dwN t) (fL (dcN Lf C ps cnt) (dgl [nI k, nI n, nI cnt, nI (sN (ctW C ps t) cnt), nI (costN n (sN (ctW C ps t) cnt)), nI (costN n (sN (fun j => wc (t j)) n)) - nI (costN n (sN (ctW C ps t) cnt)), nI sg, rp, lo, ea, nI (utN q sg), nI (gfN q sg cnt), nI (akN q sg cnt), qwF sg cnt 9 1, uc, b2, b3, b4] 2143) k) n) cnt
