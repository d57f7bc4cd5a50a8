set_option maxHeartbeats 4000000 in
set_option maxRecDepth 100000 in
theorem linv_up {D : va_G} {cI cL : ClassId} {h0 b0 b1 b2 m0 m1 p0 p1 p2 p3 p4 s0 s1 s2 s3 s4 q0 y0 y1 y2 y3 y4 y5 o a c : Nat} {H : Heap} (hac : a ≤ c) (hI : LInv D cI cL h0 b0 b1 b2 m0 m1 p0 p1 p2 p3 p4 s0 s1 s2 s3 s4 q0 y0 y1 y2 y3 y4 y5 o a H) : LInv D cI cL h0 b0 b1 b2 m0 m1 p0 p1 p2 p3 p4 s0 s1 s2 s3 s4 q0 y0 y1 y2 y3 y4 y5 o c H := by
  obtain ⟨q, sg, rp, lo, ea, T, Lf, k, t, n, f, lf, C, ps, cnt, fs, lfs, Cs, pss, cnts, se, gf, ak, gn, th, K, Lm, f9, C9, go, ak9, gn9, gf9, fo, hP, hk, hn, ht, hq, hsg0, hPC, hCR, hKD⟩ := hI
  exact ⟨q, sg, rp, lo, ea, T, Lf, k, t, n, f, lf, C, ps, cnt, fs, lfs, Cs, pss, cnts, se, gf, ak, gn, th, K, Lm, f9, C9, go, ak9, gn9, gf9, fo, hP, hk, hn, ht, hq, Nat.le_trans hsg0 hac, hPC, hCR, hKD⟩
set_option maxHeartbeats 4000000 in
set_option maxRecDepth 100000 in
theorem law_switch {pg : Program} {l : Launch} {ev : Env} {sv : State} {mi : MethodId} {ag : Array Value} {bl : List Frame} {mt : Method} {cd : Code} {Q : State → Prop} {D : va_G} {cI cL : ClassId} {A : Nat → Prop} {H0 : Heap} {b L : Nat} {xs : Nat → Int32} {h0 b0 b1 b2 m0 m1 p0 p1 p2 p3 p4 s0 s1 s2 s3 s4 q0 y0 y1 y2 y3 y4 y5 o : Nat} {H : Heap} {locs : List Loc} {cells slots : Nat} {ls : Array Slot} {sgB i : Nat} (hCx : LCx pg l sv mi ag cd D cI cL A H0 b L xs [h0, b0, b1, b2, m0, m1, p0, p1, p2, p3, p4, s0, s1, s2, s3, s4, q0, y0, y1, y2, y3, y4, y5, o]) (hI : LInv D cI cL h0 b0 b1 b2 m0 m1 p0 p1 p2 p3 p4 s0 s1 s2 s3 s4 q0 y0 y1 y2 y3 y4 y5 o sgB H) (hS : va_S A H0 H locs) (hl : lv_has ls 9 [(0, .ref b), (1, .ref h0), (2, .ref y0), (3, .ref o), (4, .int (nI i))]) (hi : i + 5 ≤ L) (hsB : sgB ≤ 59000) (hcc : cells + 1 ≤ 601024) (hss : slots + 18 ≤ 7293034)
    (kk : ∀ (H1 : Heap) (locs1 : List Loc) (ls1 : Array Slot), LInv D cI cL h0 b0 b1 b2 m0 m1 p0 p1 p2 p3 p4 s0 s1 s2 s3 s4 q0 y0 y1 y2 y3 y4 y5 o (sgB + 96) H1 → va_S A H0 H1 locs1 → lv_has ls1 9 [(0, .ref b), (1, .ref h0), (2, .ref y0), (3, .ref o), (4, .int (nI i))] → W pg l ev room_1 sv mi ag bl mt cd H1 locs1 (cells + 1) (slots + 18) Q (F0 mi 1119 ls1 []))
    {j : Nat} (hj : j < 32) : W pg l ev room_1 sv mi ag bl mt cd H locs cells slots Q (F0 mi 39 ls [.int (nI j)]) := by
  have hx := hCx.1
  have hb := hCx.2.1
  match j, hj with
  | 0, _ =>
    refine lv_tableIn (off := 133) (tgt := 172) hx hb dL_law_39 (by decide) (by decide) (by decide +kernel) (by decide) ?_
    exact arm_addCode hCx hI hS hl hi hsB hcc hss kk
  | 1, _ =>
    refine lv_tableIn (off := 225) (tgt := 264) hx hb dL_law_39 (by decide) (by decide) (by decide +kernel) (by decide) ?_
    exact arm_dropCode hCx hI hS hl hi hsB hcc hss kk
  | 2, _ =>
    refine lv_tableIn (off := 281) (tgt := 320) hx hb dL_law_39 (by decide) (by decide) (by decide +kernel) (by decide) ?_
    exact arm_codes hCx hI hS hl hi hsB hcc hss kk
  | 3, _ =>
    refine lv_tableIn (off := 294) (tgt := 333) hx hb dL_law_39 (by decide) (by decide) (by decide +kernel) (by decide) ?_
    exact arm_lengthOf hCx hI hS hl hi hsB hcc hss kk
  | 4, _ =>
    refine lv_tableIn (off := 350) (tgt := 389) hx hb dL_law_39 (by decide) (by decide) (by decide +kernel) (by decide) ?_
    exact arm_write hCx hI hS hl hi hsB hcc hss kk
  | 5, _ =>
    refine lv_tableIn (off := 406) (tgt := 445) hx hb dL_law_39 (by decide) (by decide) (by decide +kernel) (by decide) ?_
    exact arm_strike hCx hI hS hl hi hsB hcc hss kk
  | 6, _ =>
    refine lv_tableIn (off := 450) (tgt := 489) hx hb dL_law_39 (by decide) (by decide) (by decide +kernel) (by decide) ?_
    exact arm_clear hCx hI hS hl hi hsB hcc hss kk
  | 7, _ =>
    refine lv_tableIn (off := 463) (tgt := 502) hx hb dL_law_39 (by decide) (by decide) (by decide +kernel) (by decide) ?_
    exact arm_words hCx hI hS hl hi hsB hcc hss kk
  | 8, _ =>
    refine lv_tableIn (off := 476) (tgt := 515) hx hb dL_law_39 (by decide) (by decide) (by decide +kernel) (by decide) ?_
    exact arm_typeOf hCx hI hS hl hi hsB hcc hss kk
  | 9, _ =>
    refine lv_tableIn (off := 532) (tgt := 571) hx hb dL_law_39 (by decide) (by decide) (by decide +kernel) (by decide) ?_
    exact arm_groups hCx hI hS hl hi hsB hcc hss kk
  | 10, _ =>
    refine lv_tableIn (off := 545) (tgt := 584) hx hb dL_law_39 (by decide) (by decide) (by decide +kernel) (by decide) ?_
    exact arm_codeOf hCx hI hS hl hi hsB hcc hss kk
  | 11, _ =>
    refine lv_tableIn (off := 601) (tgt := 640) hx hb dL_law_39 (by decide) (by decide) (by decide +kernel) (by decide) ?_
    exact arm_startOf hCx hI hS hl hi hsB hcc hss kk
  | 12, _ =>
    refine lv_tableIn (off := 657) (tgt := 696) hx hb dL_law_39 (by decide) (by decide) (by decide +kernel) (by decide) ?_
    exact arm_usesOf hCx hI hS hl hi hsB hcc hss kk
  | 13, _ =>
    refine lv_tableIn (off := 713) (tgt := 752) hx hb dL_law_39 (by decide) (by decide) (by decide +kernel) (by decide) ?_
    exact arm_counted hCx hI hS hl hi hsB hcc hss kk
  | 14, _ =>
    refine lv_tableIn (off := 726) (tgt := 765) hx hb dL_law_39 (by decide) (by decide) (by decide +kernel) (by decide) ?_
    exact arm_cost hCx hI hS hl hi hsB hcc hss kk
  | 15, _ =>
    refine lv_tableIn (off := 739) (tgt := 778) hx hb dL_law_39 (by decide) (by decide) (by decide +kernel) (by decide) ?_
    exact arm_saved hCx hI hS hl hi hsB hcc hss kk
  | 16, _ =>
    refine lv_tableIn (off := 752) (tgt := 791) hx hb dL_law_39 (by decide) (by decide) (by decide +kernel) (by decide) ?_
    exact arm_setQuality hCx hI hS hl hi hsB hcc hss kk
  | 17, _ =>
    refine lv_tableIn (off := 808) (tgt := 847) hx hb dL_law_39 (by decide) (by decide) (by decide +kernel) (by decide) ?_
    exact arm_send hCx hI hS hl hi hsB hcc hss kk
  | 18, _ =>
    refine lv_tableIn (off := 852) (tgt := 891) hx hb dL_law_39 (by decide) (by decide) (by decide +kernel) (by decide) ?_
    exact arm_sentGroups hCx hI hS hl hi hsB hcc hss kk
  | 19, _ =>
    refine lv_tableIn (off := 865) (tgt := 904) hx hb dL_law_39 (by decide) (by decide) (by decide +kernel) (by decide) ?_
    exact arm_repeats hCx hI hS hl hi hsB hcc hss kk
  | 20, _ =>
    refine lv_tableIn (off := 878) (tgt := 917) hx hb dL_law_39 (by decide) (by decide) (by decide +kernel) (by decide) ?_
    exact arm_lost hCx hI hS hl hi hsB hcc hss kk
  | 21, _ =>
    refine lv_tableIn (off := 891) (tgt := 930) hx hb dL_law_39 (by decide) (by decide) (by decide +kernel) (by decide) ?_
    exact arm_earned hCx hI hS hl hi hsB hcc hss kk
  | 22, _ =>
    refine lv_tableIn (off := 904) (tgt := 943) hx hb dL_law_39 (by decide) (by decide) (by decide +kernel) (by decide) ?_
    exact arm_untilGarbled hCx hI hS hl hi hsB hcc hss kk
  | 23, _ =>
    refine lv_tableIn (off := 917) (tgt := 956) hx hb dL_law_39 (by decide) (by decide) (by decide +kernel) (by decide) ?_
    exact arm_wouldBeGarbled hCx hI hS hl hi hsB hcc hss kk
  | 24, _ =>
    refine lv_tableIn (off := 930) (tgt := 969) hx hb dL_law_39 (by decide) (by decide) (by decide +kernel) (by decide) ?_
    exact arm_repeatsIfSent hCx hI hS hl hi hsB hcc hss kk
  | 25, _ =>
    refine lv_tableIn (off := 943) (tgt := 982) hx hb dL_law_39 (by decide) (by decide) (by decide +kernel) (by decide) ?_
    exact arm_qualityWanted hCx hI hS hl hi hsB hcc hss kk
  | 26, _ =>
    refine lv_tableIn (off := 956) (tgt := 995) hx hb dL_law_39 (by decide) (by decide) (by decide +kernel) (by decide) ?_
    exact arm_uselessCode hCx hI hS hl hi hsB hcc hss kk
  | 27, _ =>
    refine lv_tableIn (off := 969) (tgt := 1008) hx hb dL_law_39 (by decide) (by decide) (by decide +kernel) (by decide) ?_
    exact arm_bestNewCode hCx hI hS hl hi hsB hcc hss kk
  | 28, _ =>
    refine lv_tableIn (off := 1025) (tgt := 1064) hx hb dL_law_39 (by decide) (by decide) (by decide +kernel) (by decide) ?_
    exact arm_meanLength hCx hI hS hl hi hsB hcc hss kk
  | 29, _ =>
    refine lv_tableIn (off := 1066) (tgt := 1105) hx hb dL_law_39 (by decide) (by decide) (by decide +kernel) (by decide) ?_
    exact arm_digest hCx hI hS hl hi hsB hcc hss kk
  | 30, _ =>
    refine lv_tableOut (tgt := 1119) hx hb dL_law_39 (Or.inr (by decide)) (by decide) ?_
    refine W.widen (k := cells + 1) (n := slots + 18) (by omega) (by omega) ?_
    exact kk H locs ls (linv_up (Nat.le_add_right _ _) hI) hS hl
  | 31, _ =>
    refine lv_tableOut (tgt := 1119) hx hb dL_law_39 (Or.inr (by decide)) (by decide) ?_
    refine W.widen (k := cells + 1) (n := slots + 18) (by omega) (by omega) ?_
    exact kk H locs ls (linv_up (Nat.le_add_right _ _) hI) hS hl
  | j9 + 32, h9 => exact absurd h9 (by omega)
set_option maxHeartbeats 4000000 in
set_option maxRecDepth 100000 in
theorem law_head {pg : Program} {l : Launch} {ev : Env} {sv : State} {mi : MethodId} {ag : Array Value} {bl : List Frame} {mt : Method} {cd : Code} {Q : State → Prop} {D : va_G} {cI cL : ClassId} {A : Nat → Prop} {H0 : Heap} {b L : Nat} {xs : Nat → Int32} {h0 b0 b1 b2 m0 m1 p0 p1 p2 p3 p4 s0 s1 s2 s3 s4 q0 y0 y1 y2 y3 y4 y5 o : Nat} {H : Heap} {locs : List Loc} {cells slots : Nat} {ls : Array Slot} {i : Nat} (hCx : LCx pg l sv mi ag cd D cI cL A H0 b L xs [h0, b0, b1, b2, m0, m1, p0, p1, p2, p3, p4, s0, s1, s2, s3, s4, q0, y0, y1, y2, y3, y4, y5, o]) (hS : va_S A H0 H locs) (hl : lv_has ls 9 [(0, .ref b), (1, .ref h0), (2, .ref y0), (3, .ref o), (4, .int (nI i))]) (hi : i ≤ 2560)
    (kt : L < i + 5 → W pg l ev room_1 sv mi ag bl mt cd H locs cells slots Q (F0 mi 1125 ls [])) (kf : i + 5 ≤ L → W pg l ev room_1 sv mi ag bl mt cd H locs cells slots Q (F0 mi 32 ls [])) : W pg l ev room_1 sv mi ag bl mt cd H locs cells slots Q (F0 mi 23 ls []) := by
  obtain ⟨hx, hb, hml, hts, hown, hKL, hE, hlt, hX, hbl, hbA, hT0, hL9, hD, hA⟩ := hCx
  refine lv_iload hx hb dL_law_23 (lv_at hl 4 rfl) ?_
  refine lv_aload_n hx hb dL_law_25 rfl (lv_at hl 0 rfl) ?_
  refine va_slen hx hb hX hbl hbA hS dL_law_26 ?_
  refine lv_iconst hx hb dL_law_27 ci_5 ?_
  refine lv_isub hx hb dL_law_28 ?_
  refine lv_icmp_gt (tgt := 1125) hx hb dL_law_29 (by decide) (fun q => ?_) (fun q => ?_)
  · exact kt ((lw_cmp (by omega) (by omega)).mp q)
  · exact kf (Nat.le_of_not_lt fun z => q ((lw_cmp (by omega) (by omega)).mpr z))
set_option maxHeartbeats 4000000 in
set_option maxRecDepth 100000 in
theorem law_loop {pg : Program} {l : Launch} {ev : Env} {sv : State} {mi : MethodId} {ag : Array Value} {bl : List Frame} {mt : Method} {cd : Code} {Q : State → Prop} {D : va_G} {cI cL : ClassId} {A : Nat → Prop} {H0 : Heap} {b L : Nat} {xs : Nat → Int32} {h0 b0 b1 b2 m0 m1 p0 p1 p2 p3 p4 s0 s1 s2 s3 s4 q0 y0 y1 y2 y3 y4 y5 o : Nat} (hCx : LCx pg l sv mi ag cd D cI cL A H0 b L xs [h0, b0, b1, b2, m0, m1, p0, p1, p2, p3, p4, s0, s1, s2, s3, s4, q0, y0, y1, y2, y3, y4, y5, o])
    (fin : ∀ (H : Heap) (locs : List Loc) (cells slots : Nat) (ls : Array Slot), cells ≤ 601024 → slots ≤ 7293034 → va_S A H0 H locs → W pg l ev room_1 sv mi ag bl mt cd H locs cells slots Q (F0 mi 1125 ls [])) : ∀ (r tt : Nat), L ≤ 5 * (tt + r) + 4 → tt + r ≤ 512 → ∀ (H : Heap) (locs : List Loc) (cells slots : Nat) (ls : Array Slot), cells ≤ 24 + tt → slots ≤ 396 + 18 * tt → LInv D cI cL h0 b0 b1 b2 m0 m1 p0 p1 p2 p3 p4 s0 s1 s2 s3 s4 q0 y0 y1 y2 y3 y4 y5 o (96 * tt) H → va_S A H0 H locs → lv_has ls 9 [(0, .ref b), (1, .ref h0), (2, .ref y0), (3, .ref o), (4, .int (nI (5 * tt)))] → W pg l ev room_1 sv mi ag bl mt cd H locs cells slots Q (F0 mi 23 ls []) := by
  intro r
  induction r with
  | zero =>
    intro tt h1 h2 H locs cells slots ls hc hs hI hS hl
    refine law_head hCx hS hl (by omega) (fun _ => ?_) (fun z => ?_)
    · exact fin H locs cells slots ls (by omega) (by omega) hS
    · exact absurd z (by omega)
  | succ r ih =>
    intro tt h1 h2 H locs cells slots ls hc hs hI hS hl
    refine law_head hCx hS hl (by omega) (fun _ => ?_) (fun z => ?_)
    · exact fin H locs cells slots ls (by omega) (by omega) hS
    · have hx := hCx.1
      have hb := hCx.2.1
      have hX := hCx.2.2.2.2.2.2.2.2.1
      have hbl := hCx.2.2.2.2.2.2.2.2.2.1
      have hbA := hCx.2.2.2.2.2.2.2.2.2.2.1
      have hL9 := hCx.2.2.2.2.2.2.2.2.2.2.2.2.1
      refine lv_aload_n hx hb dL_law_32 rfl (lv_at hl 0 rfl) ?_
      refine lv_iload hx hb dL_law_33 (lv_at hl 4 rfl) ?_
      refine z_sld hx hb hX hbl hbA hS (by omega) (by omega) dL_law_35 ?_
      refine z_bipush (n := 31) hx hb rfl (by decide) dL_law_36 ?_
      refine lv_iand hx hb dL_law_38 ?_
      obtain ⟨j, hj, ej⟩ := pk_andE (xs (5 * tt)) (m := nI 31) 5 (by decide)
      rw [ej]
      refine law_switch hCx hI hS hl z (by omega) (by omega) (by omega) (fun H1 locs1 ls1 hI1 hS1 hl1 => ?_) hj
      refine lv_iinc (v := nI (5 * tt + 5)) (lv' := [(4, .int (nI (5 * tt + 5))), (0, .ref b), (1, .ref h0), (2, .ref y0), (3, .ref o)]) hx hb dL_law_1119 hl1 (k := 4) rfl (z_inc5 (5 * tt)) (by decide) rfl (fun ls hl => ?_)
      refine lv_goto (tgt := 23) hx hb dL_law_1122 (by decide) ?_
      have e5 : 5 * tt + 5 = 5 * (tt + 1) := by omega
      rw [e5] at hl
      exact ih (tt + 1) (by omega) (by omega) H1 locs1 _ _ ls (by omega) (by omega) (linv_up (by omega) hI1) hS1 (lv_sub hl [1, 2, 3, 4, 0] rfl)
