/-! a cell of the script; the law's world as one word -/
def scr (b : Nat) (U : State) (H : Heap) : Prop := ∃ (L : Nat) (xs : Nat → Int32), L ≤ 260 ∧ va_X b L xs U H
theorem scr.warm {b : Nat} {s U : State} {H : Heap} (hW : s.WarmedH U.vm) (h : scr b s H) : scr b U H := by
  obtain ⟨L, xs, h1, h2⟩ := h
  exact ⟨L, xs, h1, h2.moved hW.alike⟩
theorem scr.call {b : Nat} {U : State} {g : JFrame} {mk : MethodId} {a : Array Value} (h : scr b U U.heap) : scr b (U.calling g mk a) U.heap := by
  obtain ⟨L, xs, h1, h2⟩ := h
  exact ⟨L, xs, h1, h2.moved (u := U) (U := U.calling g mk a) (Vm.Alike.refl U.vm)⟩
theorem scr.kept {b : Nat} {U : State} {H0 H : Heap} {A : Nat → Prop} {locs : List Loc} (h : scr b U H0) (hbl : b < H0.size) (hbA : ¬ A b) (hS : va_S A H0 H locs) : scr b U H := by
  obtain ⟨L, xs, h1, h2⟩ := h
  exact ⟨L, xs, h1, h2.kept (hS.2.1 b hbl hbA)⟩
def rcQ : Array Value → State → Outcome → State → Prop := fun _ st o t => (∃ x : Int32, o = .returned (some (.int x))) ∧ t.heap = st.heap
theorem mx_of {l : Launch} {y : MethodName} {ws ws' : List Cond} {rm : Room} {as : List Value} {mc ms : Nat} {free : Nat → Prop} {Qc : Array Value → State → Outcome → State → Prop} {Pc : State → Prop} {cc : ByteArray} {maxL : Nat} {ret : Option FieldType} {C : String}
    (hC : y.cls = C) (hy : plainName y.cls = true) (hw : ws = Cond.code y cc maxL ret :: ws') (hn : (lg_sl as).length ≤ maxL)
    (body : ∀ (p : Program) (e : Env) (s : State) (m : MethodId) (args : Array Value) (below : List Frame) (meth : Method) (c : Code) (ls : Array Slot) (Q : State → Prop), MQ below Qc args s mc ms free = Q → p.tables.exec = Jvm.exec → c.code = cc → meth.sig.returnType = ret → meth.locks = false → c.maxLocals = maxL → (∀ w ∈ ws, w.before args s = true) → s.vm.findClass C = some m.cls →
      Pc s → lv_has ls maxL (lv_args 0 as) → W p l e rm s m args below meth c s.heap [] 0 0 Q (F0 m 0 ls [])) : Met l y ws rm (va_Pc as Pc) Qc mc ms free := by
  refine Met.ofW (cc := cc) (maxL := maxL) (ret := ret) hy hw ?_
  intro p e s m args below meth c s₁ B hml hv
  obtain ⟨rfl, hP⟩ := hv
  have hl := lv_entry as (n := maxL) hn
  rw [lg_entry_eq]
  subst hC
  exact body p e s m as.toArray below meth c _ _ rfl B.exec B.bytes B.returns B.notSynchronized hml (atoms_spec (ws := ws) B.pre) (findClass_of_methodNamed B.named) hP hl
abbrev rm_L_cell : Room := { frames := 0, cells := 0, slots := 0, locals := 0 }
theorem hd_L_cell : yL_cell.cls ≠ "java/lang/invoke/MethodHandle" ∧ yL_cell.cls ≠ "java/lang/invoke/VarHandle" ∧ (parseMethodDescriptor yL_cell.desc).map (fun d => d.parameters.length) = some 2 := by decide +kernel
set_option maxHeartbeats 4000000 in
set_option maxRecDepth 100000 in
theorem c_L_cell (l : Launch) (D : va_G) (cI : ClassId) (b k : Nat) (hk : k < 1000) : Met l yL_cell wsL_cell rm_L_cell (va_Pc [.ref b, .int (nI k)] (fun U => scr b U U.heap ∧ zK D cI U)) rcQ 0 0 (fun _ => False) := by
  refine mx_of (C := RL) (cc := cL_cell) (maxL := 2) (ret := (some .int)) rfl (by decide) rfl (Nat.le_of_ble_eq_true rfl) ?_
  intro pg ev sv mi ag bl mt cd ls Q hQ hx hb hr hlocks hml hts hown hPc hl
  have hl : lv_has ls 2 [(0, .ref b), (1, .int (nI k))] := hl
  obtain ⟨⟨L, xs, hL, hX⟩, hK, hE⟩ := hPc
  have hbl : b < sv.heap.size := by
    obtain ⟨c0, h1, -⟩ := hX
    exact (Array.getElem?_eq_some_iff.mp h1).1
  refine lv_iload_n hx hb dL_cell_0 rfl (lv_at hl 1 rfl) ?_
  refine lv_aload_n hx hb dL_cell_1 rfl (lv_at hl 0 rfl) ?_
  refine va_slen (A := fun _ => False) hx hb hX hbl (fun h => h) va_S.rf dL_cell_2 ?_
  refine z_top (x := Int32.ofNat L) (y := nI L) rfl ?_
  refine z_icmp_ge (tgt := 12) hx hb dL_cell_3 (by decide) (by omega) (by omega) (fun c_3 => ?_) (fun c_3 => ?_)
  · refine lv_ldc hx hb hown (hts (.constant RL 8 (790386105)) (by decide +kernel)) dL_cell_12 ?_
    refine lv_iload_n hx hb dL_cell_14 rfl (lv_at hl 1 rfl) ?_
    refine lv_iconst (v := nI 3) hx hb dL_cell_15 ci_3 ?_
    refine lv_iadd hx hb dL_cell_16 ?_
    refine lv_imul hx hb dL_cell_17 ?_
    subst hQ
    exact W.iret hx hb hr (fun t ht _ => ⟨⟨_, rfl⟩, ht⟩) (fun _ h => nomatch h) dL_cell_18 hlocks
  · refine lv_aload_n hx hb dL_cell_6 rfl (lv_at hl 0 rfl) ?_
    refine lv_iload_n hx hb dL_cell_7 rfl (lv_at hl 1 rfl) ?_
    refine va_sld (A := fun _ => False) hx hb hX hbl (fun h => h) va_S.rf (vp_in_nI c_3 (by omega)) dL_cell_8 ?_
    refine lv_goto (tgt := 18) hx hb dL_cell_9 (by decide) ?_
    subst hQ
    exact W.iret hx hb hr (fun t ht _ => ⟨⟨_, rfl⟩, ht⟩) (fun _ h => nomatch h) dL_cell_18 hlocks
section ZRC
variable {p : Program} {l : Launch} {e : Env} {R : Room} {s : State} {m : MethodId} {args : Array Value} {below : List Frame} {meth : Method} {c : Code} {H : Heap} {locs : List Loc} {cells slots : Nat} {Q : State → Prop}
variable {cc : ByteArray} {pc : Nat} {ls : Array Slot} {rest : List Value} {D : va_G} {cI : ClassId}
variable {y : MethodName} {bytes : ByteArray} {maxL nL n index : Nat} {ret : Option FieldType} {wsc : List Cond} {rmc : Room} {Ts : List Cond} {own : String} {b : Nat} {As st : List Value}
theorem rc_call {st : List Value} {a' : Array Value} {free : Addr → Prop} (hfree : ∀ q, ¬ free q) (hr : va_Run p l e R s m args below meth c H locs cells slots 0 0 (F0 m pc ls st) rest (rcQ a') free)
    (kk : ∀ x : Int32, W p l e R s m args below meth c H locs cells slots Q (F0 m (pc + 3) ls (.int x :: rest))) : W p l e R s m args below meth c H locs cells slots Q (F0 m pc ls st) := by
  intro T hT X
  obtain ⟨v, st₀, t, T', L, h0, X', hL, e1, e2, ⟨⟨x, hv⟩, hh⟩, hst⟩ := hr T hT X
  cases hv
  have hL0 : L = [] := by
    cases L with
    | nil => rfl
    | cons q _ => exact (hfree _ (hL q List.mem_cons_self)).elim
  subst hL0
  rw [List.append_nil] at X'
  obtain ⟨t2, a1, b1⟩ := kk x T' (by rw [e1, hh, h0]) X'
  exact ⟨t2, hst t2 a1, b1⟩
theorem z_rcS (S : CallFix p m c cc nL s args Ts own) (hM : Met l y wsc rmc (va_Pc As (fun U => scr b U U.heap ∧ zK D cI U)) rcQ 0 0 (fun _ => False)) (cw : CallB R s args own index y bytes maxL ret wsc rmc 0 0 n ∧ (Cond.static y).before args s = true) (hK : zK D cI s) (hX : scr b s H)
    (hn : As.length = n) (hls : ls.size = nL) (hst : st = As.reverse ++ rest) (hcat : (rest.map fun v => v.category).sum ≤ 8) (hdg : decode cc pc = .ok (.invokestatic index, 3)) (hc : cells ≤ R.cells) (hs : slots ≤ R.slots)
    (kk : ∀ x : Int32, W p l e R s m args below meth c H locs cells slots Q (F0 m (pc + 3) ls (.int x :: rest))) : W p l e R s m args below meth c H locs cells slots Q (F0 m pc ls st) := by
  subst hst
  exact rc_call (fun _ h => h) (va_runS S hM cw ⟨fun a U g mk q => ⟨q.1, q.2.1.call, q.2.2.call⟩, fun U hU hW => ⟨rfl, by rw [hU]; exact hX.warm hW, hK.warm hW⟩⟩ rfl hn hls rfl (lv_room hcat) hdg ⟨hc, hs⟩) kk
end ZRC
/-- the law's world: the office, the other bookkeeping, its rows -/
abbrev lwW (D : va_G) (cI : ClassId) (h0 b0 m0 p0 s0 q0 b1 b2 m1 p1 p2 p3 p4 y0 : Nat) (k n q sg rp lo cnt se gf ak gn : Nat) (Lf t f lf ps R : Nat → Nat) (T C : Nat → Int32) (ea : Int32) (yk ym : Nat) : va_W := ((h0, .inr (4, [.ref b0, .ref m0, .ref p0, .ref s0, .ref q0, .int (nI q), .int (nI sg), .int (nI rp), .int (nI lo), .int ea])) :: (b0, .inr (0, [.ref b1, .ref b2, .int (nI k)])) :: (b1, .inl (cI, 32, .inl T)) :: (b2, .inl (cI, 8, .inl (nA Lf))) :: (m0, .inr (1, [.ref m1, .int (nI n)])) :: (m1, .inl (cI, 24, .inl (nA t))) :: (p0, .inr (2, [.ref p1, .ref p2, .ref p3, .ref p4, .int (nI cnt)])) :: (p1, .inl (cI, 25, .inl (nA f))) :: (p2, .inl (cI, 24, .inl (nA lf))) :: (p3, .inl (cI, 24, .inl C)) :: (p4, .inl (cI, 24, .inl (nA ps))) :: (q0, .inr (3, [.int (nI se), .int (nI gf), .int (nI ak), .int (nI gn)])) :: (y0, .inr (5, [.ref yk, .ref ym, .int (nI q), .int (nI sg), .int (nI rp), .int (nI lo), .int ea])) :: (ym, .inl (cI, n, .inl (nA t))) :: (yk, .inl (zQ D, k, .inr (.inr (.inr (.inr (zrf R)))))) :: rwW cI R Lf T k)
abbrev lwA (cI : ClassId) (h0 b0 m0 p0 s0 q0 b1 b2 m1 p1 p2 p3 p4 y0 : Nat) (k n q sg rp lo cnt se gf ak gn : Nat) (Lf t f lf ps R : Nat → Nat) (T C : Nat → Int32) (ea : Int32) (yk ym : Nat) : List Nat := h0 :: b0 :: b1 :: b2 :: m0 :: m1 :: p0 :: p1 :: p2 :: p3 :: p4 :: q0 :: y0 :: ym :: yk :: (rwW cI R Lf T k).map Prod.fst
def LW (D : va_G) (cI : ClassId) (h0 b0 m0 p0 s0 q0 b1 b2 m1 p1 p2 p3 p4 y0 : Nat) (bd : Nat) (A : Nat → Prop) (H : Heap) : Prop := ∃ (k n q sg rp lo cnt se gf ak gn : Nat) (Lf t f lf ps R : Nat → Nat) (T C : Nat → Int32) (ea : Int32) (yk ym : Nat), va_P D vwCl (lwW D cI h0 b0 m0 p0 s0 q0 b1 b2 m1 p1 p2 p3 p4 y0 k n q sg rp lo cnt se gf ak gn Lf t f lf ps R T C ea yk ym) H ∧ zDD A (lwA cI h0 b0 m0 p0 s0 q0 b1 b2 m1 p1 p2 p3 p4 y0 k n q sg rp lo cnt se gf ak gn Lf t f lf ps R T C ea yk ym) ∧ SI bd k n q sg rp lo cnt T Lf t f lf C ps
theorem LW.mono {D : va_G} {cI : ClassId} {h0 b0 m0 p0 s0 q0 b1 b2 m1 p1 p2 p3 p4 y0 : Nat} {bd bd2 : Nat} {A : Nat → Prop} {H : Heap} (h : LW D cI h0 b0 m0 p0 s0 q0 b1 b2 m1 p1 p2 p3 p4 y0 bd A H) (hb : bd ≤ bd2) : LW D cI h0 b0 m0 p0 s0 q0 b1 b2 m1 p1 p2 p3 p4 y0 bd2 A H := by
  obtain ⟨k, n, q, sg, rp, lo, cnt, se, gf, ak, gn, Lf, t, f, lf, ps, R, T, C, ea, yk, ym, h1, h2, h3⟩ := h
  exact ⟨k, n, q, sg, rp, lo, cnt, se, gf, ak, gn, Lf, t, f, lf, ps, R, T, C, ea, yk, ym, h1, h2, h3.mono hb⟩
