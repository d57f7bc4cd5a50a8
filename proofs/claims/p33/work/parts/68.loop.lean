/-! the loop; the call that builds -/
theorem LW.wk {D : va_G} {cI : ClassId} {h0 b0 m0 p0 s0 q0 b1 b2 m1 p1 p2 p3 p4 y0 : Nat} {bd : Nat} {A B : Nat → Prop} {H : Heap} (h : LW D cI h0 b0 m0 p0 s0 q0 b1 b2 m1 p1 p2 p3 p4 y0 bd A H) (hAB : ∀ q, A q → B q) : LW D cI h0 b0 m0 p0 s0 q0 b1 b2 m1 p1 p2 p3 p4 y0 bd B H := by
  obtain ⟨k, n, q, sg, rp, lo, cnt, se, gf, ak, gn, Lf, t, f, lf, ps, R, T, C, ea, yk, ym, h1, h2, h3⟩ := h
  exact ⟨k, n, q, sg, rp, lo, cnt, se, gf, ak, gn, Lf, t, f, lf, ps, R, T, C, ea, yk, ym, h1, ⟨h2.1, fun a ha => hAB a (h2.2 a ha)⟩, h3⟩
set_option maxHeartbeats 4000000 in
set_option maxRecDepth 100000 in
theorem law_loop {pg : Program} {l : Launch} {ev : Env} {sv : State} {mi : MethodId} {ag : Array Value} {bl : List Frame} {mt : Method} {cd : Code} {Q : State → Prop} {D : va_G} {cI : ClassId} {A : Nat → Prop} {b : Nat} {h0 b0 m0 p0 s0 q0 b1 b2 m1 p1 p2 p3 p4 y0 : Nat} (hCx : LC pg l sv mi ag cd D cI A b) (fin : ∀ (H : Heap) (locs : List Loc) (cells slots : Nat) (ls : Array Slot), cells ≤ 700000 → slots ≤ 6000000 → va_S A sv.heap H locs → W pg l ev rm_L_law sv mi ag bl mt cd H locs cells slots Q (F0 mi 861 ls [.int 1])) :
    ∀ (d tm : Nat), tm + d = 24 → ∀ (H : Heap) (locs : List Loc) (cells slots : Nat) (ls : Array Slot), cells ≤ 1000 + 20 * tm → slots ≤ 10000 + 240 * tm → LW D cI h0 b0 m0 p0 s0 q0 b1 b2 m1 p1 p2 p3 p4 y0 (7000 + 288 * tm) A H → va_S A sv.heap H locs → lv_has ls 19 [(3, .int (nI tm)), (2, .ref y0), (1, .ref h0), (0, .ref b)] → W pg l ev rm_L_law sv mi ag bl mt cd H locs cells slots Q (F0 mi 22 ls []) := by
  intro d
  induction d with
  | zero =>
    intro tm htm H locs cells slots ls hcc hss hW hS hl
    obtain rfl : tm = 24 := by omega
    obtain ⟨hx, hb, hml, hts, hown, hK, hE, hscr, hbl, hbA, hA⟩ := id hCx
    refine lv_iload_n hx hb dL_law_22 rfl (lv_at hl 0 rfl) ?_
    refine z_bipush (n := 24) hx hb rfl (by decide) dL_law_23 ?_
    refine z_icmp_ge (tgt := 856) hx hb dL_law_25 (by decide) (by omega) (by omega) (fun c_25 => ?_) (fun c_25 => absurd c_25 (by omega))
    refine lv_aload_n hx hb dL_law_856 rfl (lv_at hl 1 rfl) ?_
    refine lv_aload_n hx hb dL_law_857 rfl (lv_at hl 2 rfl) ?_
    obtain ⟨k, n, q, sg, rp, lo, cnt, se, gf, ak, gn, Lf, t, f, lf, ps, R, T, C, ea, yk, ym, hP, hD, hSI⟩ := hW
    refine z_frV (w0 := lwW D cI h0 b0 m0 p0 s0 q0 b1 b2 m1 p1 p2 p3 p4 y0 k n q sg rp lo cnt se gf ak gn Lf t f lf ps R T C ea yk ym) (As := [.ref h0]) (rest := []) ⟨hx, hb, hml, hown, hts⟩ (c_X5_isSame l D cI h0 b0 m0 p0 s0 q0 b1 b2 m1 p1 p2 p3 p4 y0 yk ym k n q sg rp lo cnt se gf ak gn Lf t f lf ps R T C ea (7000 + 288 * 24) hSI (by omega) _) (cwV 1 hts gL_law_X5_isSame rfl rfl rfl hd_X5_isSame ⟨Nat.le_of_ble_eq_true rfl, Nat.le_of_ble_eq_true rfl⟩) ⟨hK, hE⟩ hP hP (hD.to rfl) hS hA (va_recv hK hP (ci := 5) (q0 := 12) rfl rfl) rfl hl.1 rfl (Nat.le_of_ble_eq_true rfl) dL_law_858 (by show _ ≤ 769499; omega) (by show _ ≤ 6793128; omega) (fun v9 u9 H locs hp hP hD hS => ?_)
    obtain rfl := hp
    refine W.eq (g2 := F0 mi 861 ls [.int 1]) (by show F0 mi 861 ls [.int (z1 True)] = _; rw [z1_t trivial]) ?_
    exact fin H locs _ _ ls (by omega) (by omega) hS
  | succ d ih =>
    intro tm htm H locs cells slots ls hcc hss hW hS hl
    refine law_turn hCx (by omega) (by omega) (by omega) (by omega) hW hS hl (fun H locs ls cells2 slots2 h1 h2 hW hS hl => ?_)
    exact ih (tm + 1) (by omega) H locs cells2 slots2 ls (by omega) (by omega) (hW.mono (by omega)) hS hl
section ZBD
variable {p : Program} {l : Launch} {e : Env} {R : Room} {s : State} {m : MethodId} {args : Array Value} {below : List Frame} {meth : Method} {c : Code} {H : Heap} {locs : List Loc} {cells slots : Nat} {Q : State → Prop}
variable {cc : ByteArray} {pc : Nat} {ls : Array Slot} {rest : List Value} {D : va_G} {cI : ClassId} {A : Nat → Prop} {H0 : Heap} {nL index : Nat} {Ts : List Cond} {own : String} {st : List Value} {h0 b0 m0 p0 s0 q0 b1 b2 m1 p1 p2 p3 p4 b : Nat}
theorem z_build (S : CallFix p m c cc nL s args Ts own) (cw : CallB R s args own index yL_build cL_build 5 (some (.object "TelegraphDeskLaw$Sim")) wsL_build rm_L_build 600 8000 2 ∧ (Cond.static yL_build).before args s = true) (hK : zK D cI s) (hP : va_P D vwCl (wd0 cI h0 b0 m0 p0 s0 q0 b1 b2 m1 p1 p2 p3 p4) H) (hD : va_D A (wd0 cI h0 b0 m0 p0 s0 q0 b1 b2 m1 p1 p2 p3 p4)) (hS : va_S A H0 H locs) (hA : ∀ q, H0.size ≤ q → A q) (hX : scr b s H) (hbl : b < H.size) (hbn : b ∉ (wd0 cI h0 b0 m0 p0 s0 q0 b1 b2 m1 p1 p2 p3 p4).map Prod.fst)
    (hls : ls.size = nL) (hst : st = [Value.ref b, .ref h0] ++ rest) (hcat : (rest.map fun v => v.category).sum ≤ 8) (hdg : decode cc pc = .ok (.invokestatic index, 3)) (hc : cells + 600 ≤ R.cells) (hs : slots + 8000 ≤ R.slots)
    (kk : ∀ (y0 : Nat) (H1 : Heap) (locs1 : List Loc), LW D cI h0 b0 m0 p0 s0 q0 b1 b2 m1 p1 p2 p3 p4 y0 7000 A H1 → va_S A H0 H1 locs1 → W p l e R s m args below meth c H1 locs1 (cells + 600) (slots + 8000) Q (F0 m (pc + 3) ls (.ref y0 :: rest))) : W p l e R s m args below meth c H locs cells slots Q (F0 m pc ls st) := by
  subst hst
  have hF : ∀ q, va_A (wd0 cI h0 b0 m0 p0 s0 q0 b1 b2 m1 p1 p2 p3 p4) H.size q → A q := fun q h => by
    rcases h with ⟨k, e, h⟩ | h
    · exact hD.2 k _ h
    · exact hA q (Nat.le_trans hS.1 h)
  have hr := va_runS (As := [.ref h0, .ref b]) (rest := rest) (g := F0 m pc ls ([Value.ref b, .ref h0] ++ rest)) (H := H) (locs := locs) (below := below) (l := l) (p := p) (e := e) (meth := meth) (cells := cells) (slots := slots) S (c_L_build l D cI h0 b0 m0 p0 s0 q0 b1 b2 m1 p1 p2 p3 p4 b H.size) cw ⟨fun a U g mk q => ⟨q.1, q.2.1, q.2.2.1, q.2.2.2.1.call, q.2.2.2.2.1, q.2.2.2.2.2.1.call, q.2.2.2.2.2.2⟩, fun U hU hW => ⟨rfl, by rw [hU], by rw [hU]; exact hP, hK.warm hW, hD.weaken (fun _ _ _ _ => trivial), by rw [hU]; exact hX.warm hW, by rw [hU]; exact hbl, hbn⟩⟩ rfl rfl hls rfl (lv_room hcat) hdg ⟨hc, hs⟩
  intro T hT X
  obtain ⟨v, st₀, t, T', L, h0', X', hL, e1, e2, ⟨⟨y0, hv, hW⟩, hz, hk⟩, hst⟩ := hr T hT X
  cases hv
  rw [h0'] at hz hk
  have hk' : ∀ q : Nat, q < H.size → ¬ va_A (wd0 cI h0 b0 m0 p0 s0 q0 b1 b2 m1 p1 p2 p3 p4) H.size q → T'.heap[q]? = H[q]? := fun q h1 h2 => by rw [e1]; exact hk q h1 h2
  obtain ⟨t2, a1, b1⟩ := kk y0 T'.heap (locs ++ L) ((by rw [e1]; exact hW : LW D cI h0 b0 m0 p0 s0 q0 b1 b2 m1 p1 p2 p3 p4 y0 7000 (va_A (wd0 cI h0 b0 m0 p0 s0 q0 b1 b2 m1 p1 p2 p3 p4) H.size) T'.heap).wk hF) ⟨Nat.le_trans hS.1 (by rw [e1]; exact hz), fun q h1 h2 => by rw [hk' q (Nat.lt_of_lt_of_le h1 hS.1) (fun z => h2 (hF q z))]; exact hS.2.1 q h1 h2, fun q hq => by
      rcases List.mem_append.mp hq with h | h
      · exact hS.2.2 q h
      · exact hF _ (hL q h)⟩ T' rfl X'
  exact ⟨t2, hst t2 a1, b1⟩
end ZBD
