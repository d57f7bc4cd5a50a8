/-! what holds at the loop's head, and rows for the script and for the ends -/
def LInv (D : va_G) (cI cL : ClassId) (h0 b0 b1 b2 m0 m1 p0 p1 p2 p3 p4 s0 s1 s2 s3 s4 q0 y0 y1 y2 y3 y4 y5 o sgB : Nat) (H : Heap) : Prop := ∃ (q : Nat) (sg : Nat) (rp : Int32) (lo : Int32) (ea : Int32) (T : Nat → Int32) (Lf : Nat → Nat) (k : Nat) (t : Nat → Nat) (n : Nat) (f : Nat → Nat) (lf : Nat → Nat) (C : Nat → Int32) (ps : Nat → Nat) (cnt : Nat) (fs : Nat → Nat) (lfs : Nat → Nat) (Cs : Nat → Int32) (pss : Nat → Nat) (cnts : Nat) (se : Nat) (gf : Nat) (ak : Nat) (gn : Nat) (th : Nat) (K : Nat → Int32) (Lm : Nat → Nat) (f9 : Nat → Nat) (C9 : Nat → Int32) (go : Nat) (ak9 : Nat) (gn9 : Nat) (gf9 : Nat) (fo : Nat → Int64), va_P D vwCl [(h0, .inr (4, [.ref b0, .ref m0, .ref p0, .ref s0, .ref q0, .int (nI q), .int (nI sg), .int rp, .int lo, .int ea])), (b0, .inr (0, [.ref b1, .ref b2, .int (nI k)])), (b1, .inl (cI, 32, .inl T)), (b2, .inl (cI, 8, .inl (nA Lf))), (m0, .inr (1, [.ref m1, .int (nI n)])), (m1, .inl (cI, 24, .inl (nA t))), (p0, .inr (2, [.ref p1, .ref p2, .ref p3, .ref p4, .int (nI cnt)])), (p1, .inl (cI, 25, .inl (nA f))), (p2, .inl (cI, 24, .inl (nA lf))), (p3, .inl (cI, 24, .inl C)), (p4, .inl (cI, 24, .inl (nA ps))), (s0, .inr (2, [.ref s1, .ref s2, .ref s3, .ref s4, .int (nI cnts)])), (s1, .inl (cI, 25, .inl (nA fs))), (s2, .inl (cI, 24, .inl (nA lfs))), (s3, .inl (cI, 24, .inl Cs)), (s4, .inl (cI, 24, .inl (nA pss))), (q0, .inr (3, [.int (nI se), .int (nI gf), .int (nI ak), .int (nI gn)])), (y0, .inr (5, [.int (nI th), .int (nI k), .ref y1, .ref y2, .int (nI n), .ref y3, .int (nI q), .int (nI sg), .int rp, .int lo, .int ea, .ref y4, .ref y5, .int (nI go), .int (nI ak9), .int (nI gn9), .int (nI gf9)])), (y1, .inl (cI, 9, .inl K)), (y2, .inl (cI, 9, .inl (nA Lm))), (y3, .inl (cI, 24, .inl (nA t))), (y4, .inl (cI, 25, .inl (nA f9))), (y5, .inl (cI, 24, .inl C9)), (o, .inl (cL, 1, .inr (.inl fo)))] H ∧ k ≤ 8 ∧ n ≤ 24 ∧ (∀ j, j < n → t j < 10) ∧ q ≤ 9 ∧ sg ≤ sgB ∧ PartC t n T Lf k (-1) 0 0 f lf C ps cnt ∧ CR T Lf K Lm k ∧ KD K k
def LCx (pg : Program) (l : Launch) (sv : State) (mi : MethodId) (ag : Array Value) (cd : Code) (D : va_G) (cI cL : ClassId) (A : Nat → Prop) (H0 : Heap) (b L : Nat) (xs : Nat → Int32) (ads : List Nat) : Prop :=
  pg.tables.exec = Jvm.exec ∧ cd.code = cL_law ∧ cd.maxLocals = 9 ∧ (∀ w ∈ wsL_law, w.before ag sv = true) ∧ sv.vm.findClass RL = some mi.cls ∧ va_K D vwCl [(cI, .int), (cL, .long)] sv ∧ zE sv ∧ l.stackTraces = false ∧ va_X b L xs sv H0 ∧ b < H0.size ∧ ¬ A b ∧ zT A sv H0 ∧ L ≤ 2560 ∧ zDD A ads ∧ ∀ q, H0.size ≤ q → A q
theorem fnd_eq {B j th : Nat} {x r : Int32} {val : Nat → Int32} (hB : B < 2147483648) (h : j < B ∧ x = nI j) (hd : (∃ j : Nat, j < B ∧ x = nI j ∧ th = 0 ∧ r = val j) ∨ ((¬ ∃ j : Nat, j < B ∧ x = nI j) ∧ th = 1 ∧ r = nI 0)) : th = 0 ∧ r = val j := by
  rcases hd with ⟨j', a1, a2, a3, a4⟩ | ⟨a1, -⟩
  · have e : nI j = nI j' := h.2.symm.trans a2
    have e2 := (nI_eq (by omega) (by omega)).mp e
    rw [e2]
    exact ⟨a3, a4⟩
  · exact absurd ⟨j, h⟩ a1
theorem fnd_no {B th : Nat} {x r : Int32} {val : Nat → Int32} (h : ¬ ∃ j : Nat, j < B ∧ x = nI j) (hd : (∃ j : Nat, j < B ∧ x = nI j ∧ th = 0 ∧ r = val j) ∨ ((¬ ∃ j : Nat, j < B ∧ x = nI j) ∧ th = 1 ∧ r = nI 0)) : th = 1 ∧ r = nI 0 := by
  rcases hd with ⟨j', a1, a2, -⟩ | ⟨-, a2⟩
  · exact absurd ⟨j', a1, a2⟩ h
  · exact a2
section LROWS
variable {p : Program} {l : Launch} {e : Env} {R : Room} {s : State} {m : MethodId} {args : Array Value} {below : List Frame} {meth : Method} {c : Code} {H : Heap} {locs : List Loc} {cells slots : Nat} {Q : State → Prop}
variable {cc : ByteArray} {pc : Nat} {ls : Array Slot} {rest : List Value} {D : va_G} {A : Nat → Prop} {ws : va_W} {H0 : Heap} {cI cL : ClassId} {b L : Nat} {xs : Nat → Int32}
theorem z_sld (hx : p.tables.exec = Jvm.exec) (hb : c.code = cc) (hX : va_X b L xs s H0) (hbl : b < H0.size) (hbA : ¬ A b) (hS : va_S A H0 H locs) {i : Nat} (hi : i < L) (hL : L < 2 ^ 31) (hdg : decode cc pc = .ok (.iaload, 1))
    (kk : W p l e R s m args below meth c H locs cells slots Q (F0 m (pc + 1) ls (.int (xs i) :: rest))) : W p l e R s m args below meth c H locs cells slots Q (F0 m pc ls (.int (nI i) :: .ref b :: rest)) := by
  refine va_sld hx hb hX hbl hbA hS (vp_in_nI hi hL) hdg ?_
  rw [nI_clamp (Nat.lt_trans hi hL)]
  exact kk
theorem z_eqT {x y : Int32} {off : Int} {tgt : Nat} (hx : p.tables.exec = Jvm.exec) (hb : c.code = cc) (hdg : decode cc pc = .ok (.if_icmp .eq off, 3)) (ht : (pc : Int) + off = (tgt : Int)) (h : x = y)
    (kt : W p l e R s m args below meth c H locs cells slots Q (F0 m tgt ls rest)) : W p l e R s m args below meth c H locs cells slots Q (F0 m pc ls (.int y :: .int x :: rest)) :=
  lv_icmp_eq hx hb hdg ht (fun _ => kt) (fun q => absurd h q)
theorem z_lcmpS {x y : Int64} (hx : p.tables.exec = Jvm.exec) (hb : c.code = cc) (h : x = y) (hdg : decode cc pc = .ok (.lcmp, 1))
    (k : W p l e R s m args below meth c H locs cells slots Q (F0 m (pc + 1) ls (.int (nI 0) :: rest))) : W p l e R s m args below meth c H locs cells slots Q (F0 m pc ls (.long y :: .long x :: rest)) := by
  subst h
  refine W.lcmp hx hb hdg ?_
  have e1 : lg_cmp x x = nI 0 := by
    have e2 : lg_cmp x x = 0 := by simp [lg_cmp]
    rw [e2]; rfl
  rw [e1]
  exact k
theorem z_lald0 (hx : p.tables.exec = Jvm.exec) (hb : c.code = cc) {a : Nat} (hK : va_K D vwCl [(cI, .int), (cL, .long)] s) (hP : va_P D vwCl ws H) (q0 : Nat) {f : Nat → Int64} (ha : ws[q0]? = some (a, .inl (cL, 1, .inr (.inl f)))) (hdg : decode cc pc = .ok (.laload, 1))
    (kk : W p l e R s m args below meth c H locs cells slots Q (F0 m (pc + 1) ls (.long (f 0) :: rest))) : W p l e R s m args below meth c H locs cells slots Q (F0 m pc ls (.int (nI 0) :: .ref a :: rest)) := by
  refine va_lald hx hb hK hP q0 1 ha rfl (vp_in_nI (by decide) (by decide)) hdg ?_
  rw [nI_clamp (by decide)]
  exact kk
variable {y : MethodName} {bytes : ByteArray} {maxL nL n index mc ms : Nat} {ret : Option FieldType} {wsc : List Cond} {rmc : Room} {Ts : List Cond} {own C : String} {As st : List Value} {w0 : va_W}
theorem z_maV {S : Type} {post : Option Value → S → Prop} {w1 : S → va_W} {ads : List Nat} (S0 : CallFix p m c cc nL s args Ts own) (hM : MA l y wsc rmc D cI w0 (.ref b :: As) H.size post w1 mc ms) (cw : CallW R s args own C index y bytes maxL ret wsc rmc mc ms n) (hK : zK D cI s) (hP : va_P D vwCl ws H) (hD : zDD A ads) (hads : ws.map Prod.fst = ads) (hS : va_S A H0 H locs) (hA : ∀ q, H0.size ≤ q → A q)
    (is : List Nat) (hnd : va_nd is = true) (his : is.map (fun i => ws[i]?) = w0.map some) (hw1 : ∀ u, (w1 u).map Prod.fst = w0.map Prod.fst)
    (hrecv : ∃ cell : Cell, H[b]? = some cell ∧ cell.vm.isStatics = false ∧ s.vm.findClass C = some cell.cls) (hn : As.length = n) (hls : ls.size = nL) (hst : st = As.reverse ++ .ref b :: rest) (hcat : (rest.map fun v => v.category).sum ≤ 8) (hdg : decode cc pc = .ok (.invokevirtual index, 3)) (hc : cells + mc ≤ R.cells) (hs : slots + ms ≤ R.slots)
    (kk : ∀ (v : Option Value) (u : S) (H1 : Heap) (locs1 : List Loc), post v u → va_P D vwCl (zput ws is (w1 u)) H1 → va_S A H0 H1 locs1 → W p l e R s m args below meth c H1 locs1 (cells + mc) (slots + ms) Q (F0 m (pc + 3) ls (v.toList ++ rest))) : W p l e R s m args below meth c H locs cells slots Q (F0 m pc ls st) := by
  subst hst
  have hDw := hD.to hads
  have hsub := zin_sub hD hads his
  have hP0 := sub_P his hP
  have hr := va_runV (e := e) (below := below) (meth := meth) (locs := locs) S0 hM cw ⟨fun a U g mk q => ⟨q.1, q.2.1, q.2.2.1, q.2.2.2.1.call, q.2.2.2.2⟩, hrecv, fun U hU hW => ⟨rfl, by rw [hU], by rw [hU]; exact hP0, hK.warm hW, (hDw.sub is hnd his).weaken (fun _ _ _ _ => trivial)⟩⟩ (g := F0 m pc ls (As.reverse ++ .ref b :: rest)) rfl hn hls rfl (lv_room hcat) hdg ⟨hc, hs⟩
  have hin : ∀ q, va_A w0 H.size q → A q := by
    rintro q (⟨k, e9, h⟩ | h)
    · exact hsub q (List.mem_map.mpr ⟨(q, e9), List.mem_of_getElem? h, rfl⟩)
    · exact hA q (Nat.le_trans hS.1 h)
  intro T hT9 X
  obtain ⟨v, st₀, t, T', L', h0, X', hL, e1, e2, ⟨⟨v', u, hv, hp, hP1, -⟩, hz, hk⟩, hst⟩ := hr T hT9 X
  cases hv
  rw [h0] at hz hk
  have hk' : ∀ q : Nat, q < H.size → ¬ zin w0 q → T'.heap[q]? = H[q]? := fun q h1 h2 => by
    rw [e1]
    refine hk q h1 ?_
    rintro (⟨k, e9, h⟩ | h)
    · exact h2 (List.mem_map.mpr ⟨(q, e9), List.mem_of_getElem? h, rfl⟩)
    · omega
  have hPn := (zput_P hP hDw is hnd his (hw1 u) (by rw [e1]; exact hP1) hk').1
  obtain ⟨t2, a1, b1⟩ := kk v u T'.heap (locs ++ L') hp hPn ⟨Nat.le_trans hS.1 (by rw [e1]; exact hz), fun q h1 h2 => by rw [hk' q (Nat.lt_of_lt_of_le h1 hS.1) (fun z => h2 (hsub q z))]; exact hS.2.1 q h1 h2, fun q hq => by
    rcases List.mem_append.mp hq with h | h
    · exact hS.2.2 q h
    · exact hin _ (hL q h)⟩ T' rfl X'
  exact ⟨t2, hst t2 a1, b1⟩
end LROWS

