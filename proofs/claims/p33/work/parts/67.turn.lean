/-! one turn of the law's loop -/
set_option maxHeartbeats 4000000 in
set_option maxRecDepth 100000 in
theorem law_s1 {pg : Program} {l : Launch} {ev : Env} {sv : State} {mi : MethodId} {ag : Array Value} {bl : List Frame} {mt : Method} {cd : Code} {Q : State → Prop} {D : va_G} {cI : ClassId} {A : Nat → Prop} {b : Nat} {h0 b0 m0 p0 s0 q0 b1 b2 m1 p1 p2 p3 p4 y0 : Nat} {bd tm : Nat} {H : Heap} {locs : List Loc} {cells slots : Nat} {ls : Array Slot} (hCx : LC pg l sv mi ag cd D cI A b) (htm : tm < 24) (hbd : bd ≤ 40000) (hcc : cells ≤ 600000) (hss : slots ≤ 5000000) (hW : LW D cI h0 b0 m0 p0 s0 q0 b1 b2 m1 p1 p2 p3 p4 y0 bd A H) (hS : va_S A sv.heap H locs) (hl : lv_has ls 19 [(3, .int (nI tm)), (2, .ref y0), (1, .ref h0), (0, .ref b)]) (K : ∀ (x : Int32) (H : Heap) (locs : List Loc) (ls : Array Slot), LW D cI h0 b0 m0 p0 s0 q0 b1 b2 m1 p1 p2 p3 p4 y0 (bd + 192) A H → va_S A sv.heap H locs → lv_has ls 19 [(4, .int x), (3, .int (nI tm)), (2, .ref y0), (1, .ref h0), (0, .ref b)] → W pg l ev rm_L_law sv mi ag bl mt cd H locs (cells + 16) (slots + 216) Q (F0 mi 90 ls [])) : W pg l ev rm_L_law sv mi ag bl mt cd H locs cells slots Q (F0 mi 22 ls []) := by
  obtain ⟨hx, hb, hml, hts, hown, hK, hE, hscr, hbl, hbA, hA⟩ := id hCx
  refine lv_iload_n hx hb dL_law_22 rfl (lv_at hl 0 rfl) ?_
  refine z_bipush (n := 24) hx hb rfl (by decide) dL_law_23 ?_
  refine z_icmp_ge (tgt := 856) hx hb dL_law_25 (by decide) (by omega) (by omega) (fun c_25 => absurd c_25 (by omega)) (fun c_25 => ?_)
  refine lv_aload_n hx hb dL_law_28 rfl (lv_at hl 3 rfl) ?_
  refine lv_iload_n hx hb dL_law_29 rfl (lv_at hl 0 rfl) ?_
  refine z_bipush (n := 16) hx hb rfl (by decide) dL_law_30 ?_
  refine z_irem hx hb dL_law_32 (by omega) (by omega) (by omega) ?_
  refine z_rcS (b := b) (As := [.ref b, .int (nI (tm % 16))]) (rest := []) ⟨hx, hb, hml, hown, hts⟩ (c_L_cell l D cI b (tm % 16) (by omega)) (va_cwS 2 hts gL_law_L_cell rfl rfl rfl hd_L_cell ⟨Nat.le_of_ble_eq_true rfl, Nat.le_of_ble_eq_true rfl⟩) ⟨hK, hE⟩ (hscr.kept hbl hbA hS) rfl hl.1 rfl (Nat.le_of_ble_eq_true rfl) dL_law_33 (by show _ ≤ 769499; omega) (by show _ ≤ 6793128; omega) (fun x0 => ?_)
  refine lv_iload_n hx hb dL_law_36 rfl (lv_at hl 0 rfl) ?_
  refine z_bipush (n := 16) hx hb rfl (by decide) dL_law_37 ?_
  refine z_idiv hx hb dL_law_39 (by omega) (by omega) (by omega) ?_
  refine lv_iconst (v := nI 3) hx hb dL_law_40 ci_3 ?_
  refine z_imul hx hb dL_law_41 ?_
  refine lv_ishr hx hb dL_law_42 ?_
  refine lv_sipush (v := nI 659) hx hb dL_law_43 (by decide) ?_
  refine lv_iload_n hx hb dL_law_46 rfl (lv_at hl 0 rfl) ?_
  refine z_imul hx hb dL_law_47 ?_
  refine lv_iadd hx hb dL_law_48 ?_
  refine lv_topi (fun x _ => ?_)
  refine lv_istore (lv' := [(4, .int x), (3, .int (nI tm)), (2, .ref y0), (1, .ref h0), (0, .ref b)]) hx hb dL_law_49 hl (by decide) rfl (fun ls hl => ?_)
  refine lv_iconst (v := nI 0) hx hb dL_law_51 ci_0 ?_
  refine lv_istore (lv' := [(5, .int (nI 0)), (4, .int x), (3, .int (nI tm)), (2, .ref y0), (1, .ref h0), (0, .ref b)]) hx hb dL_law_52 hl (by decide) rfl (fun ls hl => ?_)
  have lp : ∀ (d j : Nat), j + d = 2 → ∀ (H : Heap) (locs : List Loc) (ls : Array Slot), LW D cI h0 b0 m0 p0 s0 q0 b1 b2 m1 p1 p2 p3 p4 y0 (bd + 96 * j) A H → va_S A sv.heap H locs → lv_has ls 19 [(5, .int (nI j)), (4, .int x), (3, .int (nI tm)), (2, .ref y0), (1, .ref h0), (0, .ref b)] → W pg l ev rm_L_law sv mi ag bl mt cd H locs (cells + 8 * j) (slots + 108 * j) Q (F0 mi 54 ls []) := by
    intro d
    induction d with
    | zero =>
      intro j hj H locs ls hW hS hl
      obtain rfl : j = 2 := by omega
      refine lv_iload hx hb dL_law_54 (lv_at hl 0 rfl) ?_
      refine lv_iconst (v := nI 2) hx hb dL_law_56 ci_2 ?_
      refine z_icmp_ge (tgt := 90) hx hb dL_law_57 (by decide) (by omega) (by omega) (fun c_57 => ?_) (fun c_57 => absurd c_57 (by omega))
      exact K x H locs ls (hW.mono (by omega)) hS (lv_sub hl [1, 2, 3, 4, 5] rfl)
    | succ d ih =>
      intro j hj H locs ls hW hS hl
      refine lv_iload hx hb dL_law_54 (lv_at hl 0 rfl) ?_
      refine lv_iconst (v := nI 2) hx hb dL_law_56 ci_2 ?_
      refine z_icmp_ge (tgt := 90) hx hb dL_law_57 (by decide) (by omega) (by omega) (fun c_57 => absurd c_57 (by omega)) (fun c_57 => ?_)
      refine lv_aload_n hx hb dL_law_60 rfl (lv_at hl 4 rfl) ?_
      refine lv_aload_n hx hb dL_law_61 rfl (lv_at hl 3 rfl) ?_
      refine lv_iload hx hb dL_law_62 (lv_at hl 1 rfl) ?_
      refine lv_iconst (v := nI 2) hx hb dL_law_64 ci_2 ?_
      refine lv_iload hx hb dL_law_65 (lv_at hl 0 rfl) ?_
      refine z_imul hx hb dL_law_67 ?_
      refine lv_ishr hx hb dL_law_68 ?_
      refine lv_sipush (v := nI 521) hx hb dL_law_69 (by decide) ?_
      refine lv_iload hx hb dL_law_72 (lv_at hl 0 rfl) ?_
      refine z_imul hx hb dL_law_74 ?_
      refine lv_iadd hx hb dL_law_75 ?_
      refine lv_topi (fun x2 _ => ?_)
      obtain ⟨k, n, q, sg, rp, lo, cnt, se, gf, ak, gn, Lf, t, f, lf, ps, R, T, C, ea, yk, ym, hP, hD, hSI⟩ := hW
      refine z_maS (As := [.ref h0, .ref y0, .int x2]) (rest := []) ⟨hx, hb, hml, hown, hts⟩ (c_L_act l D cI h0 b0 m0 p0 s0 q0 b1 b2 m1 p1 p2 p3 p4 y0 yk ym k n q sg rp lo cnt se gf ak gn Lf t f lf ps R T C ea (bd + 96 * j) x2 hSI (by omega) _) (va_cwS 3 hts gL_law_L_act rfl rfl rfl hd_L_act ⟨Nat.le_of_ble_eq_true rfl, Nat.le_of_ble_eq_true rfl⟩) ⟨hK, hE⟩ hP (hD.to rfl) hS hA rfl hl.1 rfl (Nat.le_of_ble_eq_true rfl) dL_law_76 (by show _ ≤ 769499; omega) (by show _ ≤ 6793128; omega) (fun v9 u9 H locs hp hP hD hS => ?_)
      obtain ⟨k9, n9, q9, sg9, rp9, lo9, cnt9, se9, gf9, ak9, gn9, Lf9, t9, f9, lf9, ps9, R9, T9, C9, ea9, yk9, ym9⟩ := u9
      obtain ⟨rfl, hSI9⟩ := hp
      dsimp only at hSI9
      refine W.eq (g2 := F0 mi 79 ls [.int (z1 True)]) rfl ?_
      refine z_if_neP (tgt := 84) hx hb dL_law_79 (by decide) (fun _ => ?_) (fun h => absurd trivial h)
      refine lv_iinc (v := nI (j + 1)) (lv' := [(5, .int (nI (j + 1))), (4, .int x), (3, .int (nI tm)), (2, .ref y0), (1, .ref h0), (0, .ref b)]) hx hb dL_law_84 hl (k := 0) rfl (z_inc1 _) (by decide) rfl (fun ls hl => ?_)
      refine lv_goto (tgt := 54) hx hb dL_law_87 (by decide) ?_
      refine W.widen (k := cells + 8 * (j + 1)) (n := slots + 108 * (j + 1)) (by omega) (by omega) ?_
      exact ih (j + 1) (by omega) H locs ls ⟨k9, n9, q9, sg9, rp9, lo9, cnt9, se9, gf9, ak9, gn9, Lf9, t9, f9, lf9, ps9, R9, T9, C9, ea9, yk9, ym9, hP, zDD.of hD, hSI9.mono (by omega)⟩ hS hl
  exact lp 2 0 rfl H locs ls hW hS hl
set_option maxHeartbeats 4000000 in
set_option maxRecDepth 100000 in
theorem law_turn {pg : Program} {l : Launch} {ev : Env} {sv : State} {mi : MethodId} {ag : Array Value} {bl : List Frame} {mt : Method} {cd : Code} {Q : State → Prop} {D : va_G} {cI : ClassId} {A : Nat → Prop} {b : Nat} {h0 b0 m0 p0 s0 q0 b1 b2 m1 p1 p2 p3 p4 y0 : Nat} {bd tm : Nat} {H : Heap} {locs : List Loc} {cells slots : Nat} {ls : Array Slot} (hCx : LC pg l sv mi ag cd D cI A b) (htm : tm < 24) (hbd : bd ≤ 40000) (hcc : cells ≤ 600000) (hss : slots ≤ 5000000) (hW : LW D cI h0 b0 m0 p0 s0 q0 b1 b2 m1 p1 p2 p3 p4 y0 bd A H) (hS : va_S A sv.heap H locs) (hl : lv_has ls 19 [(3, .int (nI tm)), (2, .ref y0), (1, .ref h0), (0, .ref b)]) (K : ∀ (H : Heap) (locs : List Loc) (ls : Array Slot) (cells2 slots2 : Nat), cells2 ≤ cells + 20 → slots2 ≤ slots + 240 → LW D cI h0 b0 m0 p0 s0 q0 b1 b2 m1 p1 p2 p3 p4 y0 (bd + 288) A H → va_S A sv.heap H locs → lv_has ls 19 [(3, .int (nI (tm + 1))), (2, .ref y0), (1, .ref h0), (0, .ref b)] → W pg l ev rm_L_law sv mi ag bl mt cd H locs cells2 slots2 Q (F0 mi 22 ls [])) : W pg l ev rm_L_law sv mi ag bl mt cd H locs cells slots Q (F0 mi 22 ls []) := by
  refine law_s1 hCx htm hbd hcc hss hW hS hl (fun x H locs ls hW hS hl => ?_)
  obtain ⟨k, n, q, sg, rp, lo, cnt, se, gf, ak, gn, Lf, t, f, lf, ps, R, T, C, ea, yk, ym, hP, hD, hSI⟩ := hW
  refine law_s2 hCx hSI (by omega) (by omega) (by omega) hP hD hS hl (fun H locs ls hP hD hS hl => ?_)
  refine law_s3 hCx hSI (by omega) (by omega) (by omega) hP hD hS hl (fun se gf ak gn H locs ls hP hD hS hl => ?_)
  refine law_s4 hCx hSI (by omega) (by omega) (by omega) hP hD hS hl (fun t f lf ps C H locs ls hSI hP hD hS hl => ?_)
  refine law_s5 hCx hSI (by omega) (by omega) (by omega) hP hD hS hl (fun H locs ls cells2 slots2 h1 h2 hW hS hl => ?_)
  obtain ⟨hx, hb, -⟩ := id hCx
  refine lv_iinc (v := nI (tm + 1)) (lv' := [(3, .int (nI (tm + 1))), (2, .ref y0), (1, .ref h0), (0, .ref b)]) hx hb dL_law_850 hl (k := 0) rfl (z_inc1 _) (by decide) rfl (fun ls hl => ?_)
  refine lv_goto (tgt := 22) hx hb dL_law_853 (by decide) ?_
  exact K H locs ls cells2 slots2 (by omega) (by omega) (hW.mono (by omega)) hS hl
