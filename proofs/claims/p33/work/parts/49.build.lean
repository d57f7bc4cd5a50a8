/-! an office that cells choose -/
abbrev wd0 (cI : ClassId) (h0 b0 m0 p0 s0 q0 b1 b2 m1 p1 p2 p3 p4 : Nat) : va_W := [(h0, .inr (4, [.ref b0, .ref m0, .ref p0, .ref s0, .ref q0, .int (nI 7), .int (nI 0), .int (nI 0), .int (nI 0), .int (nI 0)])), (b0, .inr (0, [.ref b1, .ref b2, .int (nI 0)])), (b1, .inl (cI, 32, .inl (fun _ => 0))), (b2, .inl (cI, 8, .inl (nA (fun _ => 0)))), (m0, .inr (1, [.ref m1, .int (nI 0)])), (m1, .inl (cI, 24, .inl (nA (fun _ => 0)))), (p0, .inr (2, [.ref p1, .ref p2, .ref p3, .ref p4, .int (nI 0)])), (p1, .inl (cI, 25, .inl (nA (fun _ => 0)))), (p2, .inl (cI, 24, .inl (nA (fun _ => 0)))), (p3, .inl (cI, 24, .inl (fun _ => 0))), (p4, .inl (cI, 24, .inl (nA (fun _ => 0)))), (q0, .inr (3, [.int (nI 0), .int (nI 0), .int (nI 0), .int (nI 0)]))]
def bdQ (D : va_G) (cI : ClassId) (h0 b0 m0 p0 s0 q0 b1 b2 m1 p1 p2 p3 p4 : Nat) (A : Nat → Prop) : Array Value → State → Outcome → State → Prop := fun _ st o t => (∃ y0 : Nat, o = .returned (some (.ref y0)) ∧ LW D cI h0 b0 m0 p0 s0 q0 b1 b2 m1 p1 p2 p3 p4 y0 7000 A t.heap) ∧ va_F A st t
abbrev rm_L_build : Room := { frames := 9, cells := 600, slots := 8000, locals := 216 }
theorem hd_L_build : yL_build.cls ≠ "java/lang/invoke/MethodHandle" ∧ yL_build.cls ≠ "java/lang/invoke/VarHandle" ∧ (parseMethodDescriptor yL_build.desc).map (fun d => d.parameters.length) = some 2 := by decide +kernel
set_option maxHeartbeats 4000000 in
set_option maxRecDepth 100000 in
theorem c_L_build (l : Launch) (D : va_G) (cI : ClassId) (h0 b0 m0 p0 s0 q0 b1 b2 m1 p1 p2 p3 p4 b sz : Nat) : Met l yL_build wsL_build rm_L_build (va_Pc [.ref h0, .ref b] (fun U => U.heap.size = sz ∧ va_P D vwCl (wd0 cI h0 b0 m0 p0 s0 q0 b1 b2 m1 p1 p2 p3 p4) U.heap ∧ zK D cI U ∧ va_D (fun _ => True) (wd0 cI h0 b0 m0 p0 s0 q0 b1 b2 m1 p1 p2 p3 p4) ∧ scr b U U.heap ∧ b < U.heap.size ∧ b ∉ (wd0 cI h0 b0 m0 p0 s0 q0 b1 b2 m1 p1 p2 p3 p4).map Prod.fst)) (bdQ D cI h0 b0 m0 p0 s0 q0 b1 b2 m1 p1 p2 p3 p4 (va_A (wd0 cI h0 b0 m0 p0 s0 q0 b1 b2 m1 p1 p2 p3 p4) sz)) 600 8000 (va_A (wd0 cI h0 b0 m0 p0 s0 q0 b1 b2 m1 p1 p2 p3 p4) sz) := by
  refine mx_of (C := RL) (cc := cL_build) (maxL := 5) (ret := (some (.object "TelegraphDeskLaw$Sim"))) rfl (by decide) rfl (Nat.le_of_ble_eq_true rfl) ?_
  intro pg ev sv mi ag bl mt cd ls Q hQ hx hb hr hlocks hml hts hown hPc hl
  have hl : lv_has ls 5 [(0, .ref h0), (1, .ref b)] := hl
  obtain ⟨hsz, hP, ⟨hK, hE⟩, hD0, hscr, hbl, hbn⟩ := hPc
  subst hsz
  generalize hAe : va_A (wd0 cI h0 b0 m0 p0 s0 q0 b1 b2 m1 p1 p2 p3 p4) sv.heap.size = A at hQ
  have hA : ∀ q : Nat, sv.heap.size ≤ q → A q := fun q h => by rw [← hAe]; exact Or.inr h
  have hD : va_D A (wd0 cI h0 b0 m0 p0 s0 q0 b1 b2 m1 p1 p2 p3 p4) := by rw [← hAe]; exact hD0.self
  have hbA : ¬ A b := by
    rw [← hAe]
    rintro (⟨k, e, h⟩ | h)
    · exact hbn (List.mem_map.mpr ⟨_, List.mem_of_getElem? h, rfl⟩)
    · omega
  have hS : va_S A sv.heap sv.heap [] := va_S.rf
  refine va_new (ci := 5) (fs := [.null, .null, .int (nI 0), .int (nI 0), .int (nI 0), .int (nI 0), .int (nI 0)]) hx hb hts (by decide +kernel) tyX5 tyX5_ok hown (hts (.classLink RL 16 RX5) (by decide +kernel)) (hts (.instantiable RX5 7) (by decide +kernel)) (hts (.initialized RX5) (by decide +kernel)) hK hP hD hS hA rfl dfX5 (Nat.le_of_ble_eq_true rfl) (Nat.le_of_ble_eq_true rfl) dL_build_0 (fun y0 H hP hD hS => ?_)
  have hP : va_P D vwCl [(h0, .inr (4, [.ref b0, .ref m0, .ref p0, .ref s0, .ref q0, .int (nI 7), .int (nI 0), .int (nI 0), .int (nI 0), .int (nI 0)])), (b0, .inr (0, [.ref b1, .ref b2, .int (nI 0)])), (b1, .inl (cI, 32, .inl (fun _ => 0))), (b2, .inl (cI, 8, .inl (nA (fun _ => 0)))), (m0, .inr (1, [.ref m1, .int (nI 0)])), (m1, .inl (cI, 24, .inl (nA (fun _ => 0)))), (p0, .inr (2, [.ref p1, .ref p2, .ref p3, .ref p4, .int (nI 0)])), (p1, .inl (cI, 25, .inl (nA (fun _ => 0)))), (p2, .inl (cI, 24, .inl (nA (fun _ => 0)))), (p3, .inl (cI, 24, .inl (fun _ => 0))), (p4, .inl (cI, 24, .inl (nA (fun _ => 0)))), (q0, .inr (3, [.int (nI 0), .int (nI 0), .int (nI 0), .int (nI 0)])), (y0, .inr (5, [.null, .null, .int (nI 0), .int (nI 0), .int (nI 0), .int (nI 0), .int (nI 0)]))] H := hP
  have hD : va_D A [(h0, .inr (4, [.ref b0, .ref m0, .ref p0, .ref s0, .ref q0, .int (nI 7), .int (nI 0), .int (nI 0), .int (nI 0), .int (nI 0)])), (b0, .inr (0, [.ref b1, .ref b2, .int (nI 0)])), (b1, .inl (cI, 32, .inl (fun _ => 0))), (b2, .inl (cI, 8, .inl (nA (fun _ => 0)))), (m0, .inr (1, [.ref m1, .int (nI 0)])), (m1, .inl (cI, 24, .inl (nA (fun _ => 0)))), (p0, .inr (2, [.ref p1, .ref p2, .ref p3, .ref p4, .int (nI 0)])), (p1, .inl (cI, 25, .inl (nA (fun _ => 0)))), (p2, .inl (cI, 24, .inl (nA (fun _ => 0)))), (p3, .inl (cI, 24, .inl (fun _ => 0))), (p4, .inl (cI, 24, .inl (nA (fun _ => 0)))), (q0, .inr (3, [.int (nI 0), .int (nI 0), .int (nI 0), .int (nI 0)])), (y0, .inr (5, [.null, .null, .int (nI 0), .int (nI 0), .int (nI 0), .int (nI 0), .int (nI 0)]))] := hD
  refine lv_dup hx hb dL_build_3 rfl ?_
  refine z_maIN (As := []) (rest := [.ref y0]) (wr := [(h0, .inr (4, [.ref b0, .ref m0, .ref p0, .ref s0, .ref q0, .int (nI 7), .int (nI 0), .int (nI 0), .int (nI 0), .int (nI 0)])), (b0, .inr (0, [.ref b1, .ref b2, .int (nI 0)])), (b1, .inl (cI, 32, .inl (fun _ => 0))), (b2, .inl (cI, 8, .inl (nA (fun _ => 0)))), (m0, .inr (1, [.ref m1, .int (nI 0)])), (m1, .inl (cI, 24, .inl (nA (fun _ => 0)))), (p0, .inr (2, [.ref p1, .ref p2, .ref p3, .ref p4, .int (nI 0)])), (p1, .inl (cI, 25, .inl (nA (fun _ => 0)))), (p2, .inl (cI, 24, .inl (nA (fun _ => 0)))), (p3, .inl (cI, 24, .inl (fun _ => 0))), (p4, .inl (cI, 24, .inl (nA (fun _ => 0)))), (q0, .inr (3, [.int (nI 0), .int (nI 0), .int (nI 0), .int (nI 0)]))]) ⟨hx, hb, hml, hown, hts⟩ (c_X5_init l D cI y0 _) ⟨va_cnB 0 hts gL_build_X5_init_n96 rfl rfl rfl hE.2.2.1 (hts (.initialized RX5) (by decide +kernel)) (by decide +kernel) ⟨Nat.le_of_ble_eq_true rfl, Nat.le_of_ble_eq_true rfl⟩, rfl, hts (.instanceMethod yX5_init) (by decide +kernel)⟩ ⟨hK, hE⟩ hP hD hS hA [12] [0, 1, 2, 3, 4, 5, 6, 7, 8, 9, 10, 11] rfl rfl (by decide) (by decide) (by decide) rfl hl.1 rfl (Nat.le_of_ble_eq_true rfl) dL_build_4 (Nat.le_of_ble_eq_true rfl) (Nat.le_of_ble_eq_true rfl) (fun v9 u9 H locs hp hP hD hS => ?_)
  obtain ⟨ym, yk⟩ := u9
  obtain rfl := hp
  refine W.eq (g2 := F0 mi 7 ls [.ref y0]) rfl ?_
  have hP : va_P D vwCl [(h0, .inr (4, [.ref b0, .ref m0, .ref p0, .ref s0, .ref q0, .int (nI 7), .int (nI 0), .int (nI 0), .int (nI 0), .int (nI 0)])), (b0, .inr (0, [.ref b1, .ref b2, .int (nI 0)])), (b1, .inl (cI, 32, .inl (fun _ => 0))), (b2, .inl (cI, 8, .inl (nA (fun _ => 0)))), (m0, .inr (1, [.ref m1, .int (nI 0)])), (m1, .inl (cI, 24, .inl (nA (fun _ => 0)))), (p0, .inr (2, [.ref p1, .ref p2, .ref p3, .ref p4, .int (nI 0)])), (p1, .inl (cI, 25, .inl (nA (fun _ => 0)))), (p2, .inl (cI, 24, .inl (nA (fun _ => 0)))), (p3, .inl (cI, 24, .inl (fun _ => 0))), (p4, .inl (cI, 24, .inl (nA (fun _ => 0)))), (q0, .inr (3, [.int (nI 0), .int (nI 0), .int (nI 0), .int (nI 0)])), (ym, .inl (cI, 0, .inl (nA (fun _ => 0)))), (yk, .inl (zQ D, 0, .inr (.inr (.inr (.inr (fun _ => none)))))), (y0, .inr (5, [.ref yk, .ref ym, .int (nI 7), .int (nI 0), .int (nI 0), .int (nI 0), .int (nI 0)]))] H := hP
  have hD : zDD A [h0, b0, b1, b2, m0, m1, p0, p1, p2, p3, p4, q0, ym, yk, y0] := zDD.of hD
  have hP := fr_setQ hP 13 (zrf (fun _ => 0)) rfl (fun j hj => absurd hj (Nat.not_lt_zero _))
  have hP : va_P D vwCl (lwW D cI h0 b0 m0 p0 s0 q0 b1 b2 m1 p1 p2 p3 p4 y0 0 0 7 0 0 0 0 0 0 0 0 (fun _ => 0) (fun _ => 0) (fun _ => 0) (fun _ => 0) (fun _ => 0) (fun _ => 0) (fun _ => 0) (fun _ => 0) (nI 0) yk ym) H := fr_cons (hP 0 _ rfl) (fr_cons (hP 1 _ rfl) (fr_cons (hP 2 _ rfl) (fr_cons (hP 3 _ rfl) (fr_cons (hP 4 _ rfl) (fr_cons (hP 5 _ rfl) (fr_cons (hP 6 _ rfl) (fr_cons (hP 7 _ rfl) (fr_cons (hP 8 _ rfl) (fr_cons (hP 9 _ rfl) (fr_cons (hP 10 _ rfl) (fr_cons (hP 11 _ rfl) (fr_cons (hP 14 _ rfl) (fr_cons (hP 12 _ rfl) (fr_cons (hP 13 _ rfl) (rw_none _ _ _ _ _ _)))))))))))))))
  have hD : zDD A (lwA cI h0 b0 m0 p0 s0 q0 b1 b2 m1 p1 p2 p3 p4 y0 0 0 7 0 0 0 0 0 0 0 0 (fun _ => 0) (fun _ => 0) (fun _ => 0) (fun _ => 0) (fun _ => 0) (fun _ => 0) (fun _ => 0) (fun _ => 0) (nI 0) yk ym) := zDD_pick (fx := [h0, b0, b1, b2, m0, m1, p0, p1, p2, p3, p4, q0, ym, yk, y0]) (tl := []) (want := [h0, b0, b1, b2, m0, m1, p0, p1, p2, p3, p4, q0, y0, ym, yk]) hD [0, 1, 2, 3, 4, 5, 6, 7, 8, 9, 10, 11, 14, 12, 13] (by decide) rfl
  have hW : LW D cI h0 b0 m0 p0 s0 q0 b1 b2 m1 p1 p2 p3 p4 y0 0 A H := ⟨0, 0, 7, 0, 0, 0, 0, 0, 0, 0, 0, (fun _ => 0), (fun _ => 0), (fun _ => 0), (fun _ => 0), (fun _ => 0), (fun _ => 0), (fun _ => 0), (fun _ => 0), (nI 0), yk, ym, hP, hD, Nat.zero_le _, Nat.zero_le _, fun c h => absurd h (Nat.not_lt_zero _), fun c h => absurd h (Nat.not_lt_zero _), ⟨fun c h => absurd h (Nat.not_lt_zero _), fun c c2 h => absurd h (Nat.not_lt_zero _)⟩, ⟨⟨rfl, fun j h1 h2 => absurd h2 (Nat.not_lt_zero _), fun j h1 h2 => Nat.zero_le _, fun j h1 h2 => absurd h2 (Nat.not_lt_zero _)⟩, fun g h => absurd h (Nat.not_lt_zero _), rfl, Nat.le_refl _⟩, ⟨by decide, by decide⟩, Nat.le_refl _, by decide, Nat.le_refl _⟩
  refine lv_astore_n (lv' := [(2, .ref y0), (0, .ref h0), (1, .ref b)]) hx hb dL_build_7 rfl hl (by decide) rfl (fun ls hl => ?_)
  refine z_bipush (n := 10) hx hb rfl (by decide) dL_build_8 ?_
  refine lv_aload_n hx hb dL_build_10 rfl (lv_at hl 2 rfl) ?_
  refine lv_iconst (v := nI 0) hx hb dL_build_11 ci_0 ?_
  refine z_rcS (b := b) (As := [.ref b, .int (nI 0)]) (rest := [.int (nI 10)]) ⟨hx, hb, hml, hown, hts⟩ (c_L_cell l D cI b 0 (by decide)) (va_cwS 2 hts gL_build_L_cell rfl rfl rfl hd_L_cell ⟨Nat.le_of_ble_eq_true rfl, Nat.le_of_ble_eq_true rfl⟩) ⟨hK, hE⟩ (hscr.kept hbl hbA hS) rfl hl.1 rfl (Nat.le_of_ble_eq_true rfl) dL_build_12 (Nat.le_of_ble_eq_true rfl) (Nat.le_of_ble_eq_true rfl) (fun x => ?_)
  refine z_bipush (n := 60) hx hb rfl (by decide) dL_build_15 ?_
  refine z_roS (w0 := []) (As := [.int x, .int (nI 60)]) (rest := [.int (nI 10)]) ⟨hx, hb, hml, hown, hts⟩ (c_L_below l D cI x 60 (by decide)) (va_cwS 2 hts gL_build_L_below rfl rfl rfl hd_L_below ⟨Nat.le_of_ble_eq_true rfl, Nat.le_of_ble_eq_true rfl⟩) ⟨hK, hE⟩ (va_P_nil _ _ _) rfl hl.1 rfl (Nat.le_of_ble_eq_true rfl) dL_build_17 (Nat.le_of_ble_eq_true rfl) (Nat.le_of_ble_eq_true rfl) ?_
  refine z_iadd hx hb dL_build_20 ?_
  obtain ⟨nn, hne, hnn⟩ : ∃ nn : Nat, 10 + blw x 60 = nn ∧ nn < 70 := ⟨_, rfl, by have := blw_lt x (show 0 < 60 by decide); omega⟩
  refine z_top (y := nI nn) (congrArg nI hne) ?_
  refine lv_istore_n (lv' := [(3, .int (nI nn)), (2, .ref y0), (0, .ref h0), (1, .ref b)]) hx hb dL_build_21 rfl hl (by decide) rfl (fun ls hl => ?_)
  refine lv_iconst (v := nI 0) hx hb dL_build_22 ci_0 ?_
  refine lv_istore (lv' := [(4, .int (nI 0)), (3, .int (nI nn)), (2, .ref y0), (0, .ref h0), (1, .ref b)]) hx hb dL_build_23 hl (by decide) rfl (fun ls hl => ?_)
  have lp : ∀ (d i : Nat), i + d = nn → ∀ (H : Heap) (locs : List Loc) (ls : Array Slot), LW D cI h0 b0 m0 p0 s0 q0 b1 b2 m1 p1 p2 p3 p4 y0 (96 * i) A H → va_S A sv.heap H locs → lv_has ls 5 [(4, .int (nI i)), (3, .int (nI nn)), (2, .ref y0), (0, .ref h0), (1, .ref b)] → W pg l ev rm_L_build sv mi ag bl mt cd H locs (3 + 8 * i) (7 + 108 * i) Q (F0 mi 25 ls []) := by
    intro d
    induction d with
    | zero =>
      intro i hi H locs ls hW hS hl
      refine lv_iload hx hb dL_build_25 (lv_at hl 0 rfl) ?_
      refine lv_iload_n hx hb dL_build_27 rfl (lv_at hl 1 rfl) ?_
      refine z_icmp_ge (tgt := 71) hx hb dL_build_28 (by decide) (by omega) (by omega) (fun c_28 => ?_) (fun c_28 => absurd c_28 (by omega))
      refine lv_aload_n hx hb dL_build_71 rfl (lv_at hl 2 rfl) ?_
      subst hQ
      refine W.widen (k := 600) (n := 8000) (by omega) (by omega) ?_
      exact W.aret hx hb hr (Or.inl ⟨_, rfl⟩) (Or.inr ⟨_, rfl⟩) (fun t ht _ => ⟨⟨y0, rfl, by rw [ht]; exact hW.mono (by omega)⟩, hS.F ht⟩) hS.2.2 dL_build_72 hlocks
    | succ d ih =>
      intro i hi H locs ls hW hS hl
      refine lv_iload hx hb dL_build_25 (lv_at hl 0 rfl) ?_
      refine lv_iload_n hx hb dL_build_27 rfl (lv_at hl 1 rfl) ?_
      refine z_icmp_ge (tgt := 71) hx hb dL_build_28 (by decide) (by omega) (by omega) (fun c_28 => absurd c_28 (by omega)) (fun c_28 => ?_)
      refine lv_aload_n hx hb dL_build_31 rfl (lv_at hl 3 rfl) ?_
      refine lv_aload_n hx hb dL_build_32 rfl (lv_at hl 2 rfl) ?_
      refine lv_aload_n hx hb dL_build_33 rfl (lv_at hl 4 rfl) ?_
      refine lv_iload hx hb dL_build_34 (lv_at hl 0 rfl) ?_
      refine z_bipush (n := 16) hx hb rfl (by decide) dL_build_36 ?_
      refine z_irem hx hb dL_build_38 (by omega) (by omega) (by omega) ?_
      refine z_rcS (b := b) (As := [.ref b, .int (nI (i % 16))]) (rest := [.ref y0, .ref h0]) ⟨hx, hb, hml, hown, hts⟩ (c_L_cell l D cI b (i % 16) (by omega)) (va_cwS 2 hts gL_build_L_cell rfl rfl rfl hd_L_cell ⟨Nat.le_of_ble_eq_true rfl, Nat.le_of_ble_eq_true rfl⟩) ⟨hK, hE⟩ (hscr.kept hbl hbA hS) rfl hl.1 rfl (Nat.le_of_ble_eq_true rfl) dL_build_39 (by show _ ≤ 600; omega) (by show _ ≤ 8000; omega) (fun x => ?_)
      refine lv_iload hx hb dL_build_42 (lv_at hl 0 rfl) ?_
      refine z_bipush (n := 16) hx hb rfl (by decide) dL_build_44 ?_
      refine z_idiv hx hb dL_build_46 (by omega) (by omega) (by omega) ?_
      refine lv_iconst (v := nI 3) hx hb dL_build_47 ci_3 ?_
      refine z_imul hx hb dL_build_48 ?_
      refine lv_ishr hx hb dL_build_49 ?_
      refine lv_sipush (v := nI 659) hx hb dL_build_50 (by decide) ?_
      refine lv_iload hx hb dL_build_53 (lv_at hl 0 rfl) ?_
      refine z_imul hx hb dL_build_55 ?_
      refine lv_iadd hx hb dL_build_56 ?_
      refine lv_topi (fun x _ => ?_)
      obtain ⟨k, n, q, sg, rp, lo, cnt, se, gf, ak, gn, Lf, t, f, lf, ps, R, T, C, ea, yk, ym, hP, hD, hSI⟩ := hW
      refine z_maS (As := [.ref h0, .ref y0, .int x]) (rest := []) ⟨hx, hb, hml, hown, hts⟩ (c_L_act l D cI h0 b0 m0 p0 s0 q0 b1 b2 m1 p1 p2 p3 p4 y0 yk ym k n q sg rp lo cnt se gf ak gn Lf t f lf ps R T C ea (96 * i) x hSI (by omega) _) (va_cwS 3 hts gL_build_L_act rfl rfl rfl hd_L_act ⟨Nat.le_of_ble_eq_true rfl, Nat.le_of_ble_eq_true rfl⟩) ⟨hK, hE⟩ hP (hD.to rfl) hS hA rfl hl.1 rfl (Nat.le_of_ble_eq_true rfl) dL_build_57 (by show _ ≤ 600; omega) (by show _ ≤ 8000; omega) (fun v9 u9 H locs hp hP hD hS => ?_)
      obtain ⟨k9, n9, q9, sg9, rp9, lo9, cnt9, se9, gf9, ak9, gn9, Lf9, t9, f9, lf9, ps9, R9, T9, C9, ea9, yk9, ym9⟩ := u9
      obtain ⟨rfl, hSI9⟩ := hp
      dsimp only at hSI9
      refine W.eq (g2 := F0 mi 60 ls [.int (z1 True)]) rfl ?_
      refine z_if_neP (tgt := 65) hx hb dL_build_60 (by decide) (fun _ => ?_) (fun h => absurd trivial h)
      refine lv_iinc (v := nI (i + 1)) (lv' := [(4, .int (nI (i + 1))), (3, .int (nI nn)), (2, .ref y0), (0, .ref h0), (1, .ref b)]) hx hb dL_build_65 hl (k := 0) rfl (z_inc1 _) (by decide) rfl (fun ls hl => ?_)
      refine lv_goto (tgt := 25) hx hb dL_build_68 (by decide) ?_
      refine W.widen (k := 3 + 8 * (i + 1)) (n := 7 + 108 * (i + 1)) (by omega) (by omega) ?_
      exact ih (i + 1) (by omega) H locs ls ⟨k9, n9, q9, sg9, rp9, lo9, cnt9, se9, gf9, ak9, gn9, Lf9, t9, f9, lf9, ps9, R9, T9, C9, ea9, yk9, ym9, hP, zDD.of hD, hSI9.mono (by omega)⟩ hS hl
  exact W.widen (k := 3 + 8 * 0) (n := 7 + 108 * 0) (by decide) (by decide) (lp nn 0 (by omega) H locs ls hW hS hl)
