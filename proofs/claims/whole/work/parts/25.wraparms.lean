theorem hd_L_addCode : yL_addCode.cls ≠ "java/lang/invoke/MethodHandle" ∧ yL_addCode.cls ≠ "java/lang/invoke/VarHandle" ∧ (parseMethodDescriptor yL_addCode.desc).map (fun d => d.parameters.length) = some 6 := by decide +kernel
theorem hd_L_dropCode : yL_dropCode.cls ≠ "java/lang/invoke/MethodHandle" ∧ yL_dropCode.cls ≠ "java/lang/invoke/VarHandle" ∧ (parseMethodDescriptor yL_dropCode.desc).map (fun d => d.parameters.length) = some 3 := by decide +kernel
theorem hd_L_lengthOf : yL_lengthOf.cls ≠ "java/lang/invoke/MethodHandle" ∧ yL_lengthOf.cls ≠ "java/lang/invoke/VarHandle" ∧ (parseMethodDescriptor yL_lengthOf.desc).map (fun d => d.parameters.length) = some 3 := by decide +kernel
theorem hd_L_write : yL_write.cls ≠ "java/lang/invoke/MethodHandle" ∧ yL_write.cls ≠ "java/lang/invoke/VarHandle" ∧ (parseMethodDescriptor yL_write.desc).map (fun d => d.parameters.length) = some 3 := by decide +kernel
theorem hd_L_strike : yL_strike.cls ≠ "java/lang/invoke/MethodHandle" ∧ yL_strike.cls ≠ "java/lang/invoke/VarHandle" ∧ (parseMethodDescriptor yL_strike.desc).map (fun d => d.parameters.length) = some 2 := by decide +kernel
theorem hd_L_typeOf : yL_typeOf.cls ≠ "java/lang/invoke/MethodHandle" ∧ yL_typeOf.cls ≠ "java/lang/invoke/VarHandle" ∧ (parseMethodDescriptor yL_typeOf.desc).map (fun d => d.parameters.length) = some 3 := by decide +kernel
theorem hd_L_codeOf : yL_codeOf.cls ≠ "java/lang/invoke/MethodHandle" ∧ yL_codeOf.cls ≠ "java/lang/invoke/VarHandle" ∧ (parseMethodDescriptor yL_codeOf.desc).map (fun d => d.parameters.length) = some 3 := by decide +kernel
theorem hd_L_startOf : yL_startOf.cls ≠ "java/lang/invoke/MethodHandle" ∧ yL_startOf.cls ≠ "java/lang/invoke/VarHandle" ∧ (parseMethodDescriptor yL_startOf.desc).map (fun d => d.parameters.length) = some 3 := by decide +kernel
theorem hd_L_usesOf : yL_usesOf.cls ≠ "java/lang/invoke/MethodHandle" ∧ yL_usesOf.cls ≠ "java/lang/invoke/VarHandle" ∧ (parseMethodDescriptor yL_usesOf.desc).map (fun d => d.parameters.length) = some 3 := by decide +kernel
theorem hd_L_setQuality : yL_setQuality.cls ≠ "java/lang/invoke/MethodHandle" ∧ yL_setQuality.cls ≠ "java/lang/invoke/VarHandle" ∧ (parseMethodDescriptor yL_setQuality.desc).map (fun d => d.parameters.length) = some 3 := by decide +kernel
theorem hd_L_send : yL_send.cls ≠ "java/lang/invoke/MethodHandle" ∧ yL_send.cls ≠ "java/lang/invoke/VarHandle" ∧ (parseMethodDescriptor yL_send.desc).map (fun d => d.parameters.length) = some 2 := by decide +kernel
theorem hd_L_bestNewCode : yL_bestNewCode.cls ≠ "java/lang/invoke/MethodHandle" ∧ yL_bestNewCode.cls ≠ "java/lang/invoke/VarHandle" ∧ (parseMethodDescriptor yL_bestNewCode.desc).map (fun d => d.parameters.length) = some 3 := by decide +kernel
theorem vp0 {f : Nat → Int64} {x : Int64} : vp_updL f 0 x 0 = x := if_pos rfl
set_option maxHeartbeats 4000000 in
set_option maxRecDepth 100000 in
theorem arm_lengthOf {pg : Program} {l : Launch} {ev : Env} {sv : State} {mi : MethodId} {ag : Array Value} {bl : List Frame} {mt : Method} {cd : Code} {H : Heap} {locs : List Loc} {cells slots : Nat} {Q : State → Prop} {ls : Array Slot} {D : va_G} {cI cL : ClassId} {A : Nat → Prop} {H0 : Heap} {b L : Nat} {xs : Nat → Int32} {h0 b0 b1 b2 m0 m1 p0 p1 p2 p3 p4 s0 s1 s2 s3 s4 q0 y0 y1 y2 y3 y4 y5 o sgB i : Nat} (hCx : LCx pg l sv mi ag cd D cI cL A H0 b L xs [h0, b0, b1, b2, m0, m1, p0, p1, p2, p3, p4, s0, s1, s2, s3, s4, q0, y0, y1, y2, y3, y4, y5, o]) (hI : LInv D cI cL h0 b0 b1 b2 m0 m1 p0 p1 p2 p3 p4 s0 s1 s2 s3 s4 q0 y0 y1 y2 y3 y4 y5 o sgB H) (hS : va_S A H0 H locs) (hl : lv_has ls 9 [(0, .ref b), (1, .ref h0), (2, .ref y0), (3, .ref o), (4, .int (nI i))]) (hi : i + 5 ≤ L) (hsB : sgB ≤ 59000) (hcc : cells + 1 ≤ 601024) (hss : slots + 18 ≤ 7293034)
    (kk : ∀ (H1 : Heap) (locs1 : List Loc) (ls1 : Array Slot), LInv D cI cL h0 b0 b1 b2 m0 m1 p0 p1 p2 p3 p4 s0 s1 s2 s3 s4 q0 y0 y1 y2 y3 y4 y5 o (sgB + 96) H1 → va_S A H0 H1 locs1 → lv_has ls1 9 [(0, .ref b), (1, .ref h0), (2, .ref y0), (3, .ref o), (4, .int (nI i))] → W pg l ev room_1 sv mi ag bl mt cd H1 locs1 (cells + 1) (slots + 18) Q (F0 mi 1119 ls1 [])) : W pg l ev room_1 sv mi ag bl mt cd H locs cells slots Q (F0 mi 333 ls []) := by
  obtain ⟨hx, hb, hml, hts, hown, hKL, hE, hlt, hX, hbl, hbA, hT0, hL9, hD, hA⟩ := hCx
  obtain ⟨q, sg, rp, lo, ea, T, Lf, k, t, n, f, lf, C, ps, cnt, fs, lfs, Cs, pss, cnts, se, gf, ak, gn, th, K, Lm, f9, C9, go, ak9, gn9, gf9, fo, hP, hk, hn, ht, hq, hsg0, hPC, hCR, hKD⟩ := hI
  have hP : va_P D vwCl [(h0, .inr (4, [.ref b0, .ref m0, .ref p0, .ref s0, .ref q0, .int (nI q), .int (nI sg), .int rp, .int lo, .int ea])), (b0, .inr (0, [.ref b1, .ref b2, .int (nI k)])), (b1, .inl (cI, 32, .inl T)), (b2, .inl (cI, 8, .inl (nA Lf))), (m0, .inr (1, [.ref m1, .int (nI n)])), (m1, .inl (cI, 24, .inl (nA t))), (p0, .inr (2, [.ref p1, .ref p2, .ref p3, .ref p4, .int (nI cnt)])), (p1, .inl (cI, 25, .inl (nA f))), (p2, .inl (cI, 24, .inl (nA lf))), (p3, .inl (cI, 24, .inl C)), (p4, .inl (cI, 24, .inl (nA ps))), (s0, .inr (2, [.ref s1, .ref s2, .ref s3, .ref s4, .int (nI cnts)])), (s1, .inl (cI, 25, .inl (nA fs))), (s2, .inl (cI, 24, .inl (nA lfs))), (s3, .inl (cI, 24, .inl Cs)), (s4, .inl (cI, 24, .inl (nA pss))), (q0, .inr (3, [.int (nI se), .int (nI gf), .int (nI ak), .int (nI gn)])), (y0, .inr (5, [.int (nI th), .int (nI k), .ref y1, .ref y2, .int (nI n), .ref y3, .int (nI q), .int (nI sg), .int rp, .int lo, .int ea, .ref y4, .ref y5, .int (nI go), .int (nI ak9), .int (nI gn9), .int (nI gf9)])), (y1, .inl (cI, 9, .inl K)), (y2, .inl (cI, 9, .inl (nA Lm))), (y3, .inl (cI, 24, .inl (nA t))), (y4, .inl (cI, 25, .inl (nA f9))), (y5, .inl (cI, 24, .inl C9)), (o, .inl (cL, 1, .inr (.inl fo)))] H := hP
  have hK := hKL.sub (tys' := [(cI, .int)]) [0] rfl
  have hT := zT.kept hT0 (fun a h1 h2 => hS.2.1 a h1 h2)
  have hL := cr_L hCR
  have hLk := cr_Lm hCR
  have hKk := cr_K hCR
  have hsg : sg ≤ 60000 := by omega
  have hst : ∀ g, g < cnt → ps g < n := fun g hg => by rw [(hPC.2.1 g hg).1]; exact (hPC.2.1 g hg).2
  have hcnt : cnt ≤ 24 := Nat.le_trans hPC.2.2.2 hn
  have hps : ∀ j, j < cnt → ps j < 24 := fun j hj => Nat.lt_of_lt_of_le (hst j hj) hn
  have hc0 : cells ≤ room_1.cells := Nat.le_trans (Nat.le_succ _) hcc
  have hs0 : slots ≤ room_1.slots := Nat.le_trans (Nat.le_add_right _ _) hss
  have hs6 : slots + 6 ≤ room_1.slots := Nat.le_trans (Nat.add_le_add_left (by decide) _) hss
  have hg9 := cr_g ht hCR hKD hPC
  refine lv_aload_n hx hb dL_law_333 rfl (lv_at hl 1 rfl) ?_
  refine lv_aload_n hx hb dL_law_334 rfl (lv_at hl 0 rfl) ?_
  refine lv_iload hx hb dL_law_335 (lv_at hl 4 rfl) ?_
  refine lv_iconst (v := nI 1) hx hb dL_law_337 ci_1 ?_
  refine z_iadd hx hb dL_law_338 ?_
  refine z_sld hx hb hX hbl hbA hS (by omega) (by omega) dL_law_339 ?_
  refine lv_aload_n hx hb dL_law_340 rfl (lv_at hl 3 rfl) ?_
  refine z_lxS (As := [.ref h0, .int (xs (i + 1)), .ref o]) (rest := []) ⟨hx, hb, hml, hown, hts⟩ (c_L_lengthOf l D cI cL o fo h0 b0 m0 p0 s0 q0 q sg rp lo ea b1 b2 T Lf k (xs (i + 1)) (by first | assumption | omega) hlt) (vx_cwSW 3 hts gL_law_L_lengthOf rfl rfl rfl hd_L_lengthOf ⟨Nat.le_of_ble_eq_true rfl, Nat.le_of_ble_eq_true rfl⟩) ⟨hKL, hE⟩ hP hD rfl hS hT [0, 1, 2, 3, 23] (by decide) rfl (fun u => by rcases u with _ | u <;> rfl) rfl hl.1 rfl (Nat.le_of_ble_eq_true rfl) dL_law_341 hcc hs6 (fun v9 u9 H locs hp hP hS hk9 => ?_)
  rcases u9 with _ | ⟨u9, r9⟩
  · obtain ⟨E9, ⟨rfl, hcond⟩, rfl⟩ := hp
    have hP : va_P D vwCl [(h0, .inr (4, [.ref b0, .ref m0, .ref p0, .ref s0, .ref q0, .int (nI q), .int (nI sg), .int rp, .int lo, .int ea])), (b0, .inr (0, [.ref b1, .ref b2, .int (nI k)])), (b1, .inl (cI, 32, .inl T)), (b2, .inl (cI, 8, .inl (nA Lf))), (m0, .inr (1, [.ref m1, .int (nI n)])), (m1, .inl (cI, 24, .inl (nA t))), (p0, .inr (2, [.ref p1, .ref p2, .ref p3, .ref p4, .int (nI cnt)])), (p1, .inl (cI, 25, .inl (nA f))), (p2, .inl (cI, 24, .inl (nA lf))), (p3, .inl (cI, 24, .inl C)), (p4, .inl (cI, 24, .inl (nA ps))), (s0, .inr (2, [.ref s1, .ref s2, .ref s3, .ref s4, .int (nI cnts)])), (s1, .inl (cI, 25, .inl (nA fs))), (s2, .inl (cI, 24, .inl (nA lfs))), (s3, .inl (cI, 24, .inl Cs)), (s4, .inl (cI, 24, .inl (nA pss))), (q0, .inr (3, [.int (nI se), .int (nI gf), .int (nI ak), .int (nI gn)])), (y0, .inr (5, [.int (nI th), .int (nI k), .ref y1, .ref y2, .int (nI n), .ref y3, .int (nI q), .int (nI sg), .int rp, .int lo, .int ea, .ref y4, .ref y5, .int (nI go), .int (nI ak9), .int (nI gn9), .int (nI gf9)])), (y1, .inl (cI, 9, .inl K)), (y2, .inl (cI, 9, .inl (nA Lm))), (y3, .inl (cI, 24, .inl (nA t))), (y4, .inl (cI, 25, .inl (nA f9))), (y5, .inl (cI, 24, .inl C9)), (o, .inl (cL, 1, .inr (.inl fo)))] H := hP
    refine W.eq (g2 := F0 mi 344 ls [.int (nI 1)]) rfl ?_
    refine lv_istore (lv' := [(5, .int (nI 1)), (0, .ref b), (1, .ref h0), (2, .ref y0), (3, .ref o), (4, .int (nI i))]) hx hb dL_law_344 hl (by decide) rfl (fun ls hl => ?_)
    refine lv_aload_n hx hb dL_law_346 rfl (lv_at hl 3 rfl) ?_
    refine lv_aload_n hx hb dL_law_347 rfl (lv_at hl 1 rfl) ?_
    refine lv_iload hx hb dL_law_348 (lv_at hl 5 rfl) ?_
    refine lv_iconst (v := nI 1) hx hb dL_law_350 ci_1 ?_
    refine z_iadd hx hb dL_law_351 ?_
    refine z_sld hx hb hX hbl hbA hS (by omega) (by omega) dL_law_352 ?_
    refine z_muV (As := [.int (xs (i + 1))]) (rest := []) ⟨hx, hb, hml, hown, hts⟩ (c_X5_lengthOf l D cI y0 y1 y2 y3 y4 y5 th k n q sg rp lo ea go ak9 gn9 gf9 Lm (xs (i + 1)) (by first | assumption | omega)) (cwV 1 hts gL_law_X5_lengthOf rfl rfl rfl hd_X5_lengthOf ⟨Nat.le_of_ble_eq_true rfl, Nat.le_of_ble_eq_true rfl⟩) ⟨hK, hE⟩ hP hD rfl hS [17, 19] (by decide) rfl (fun _ => rfl) (va_recv hK hP (ci := 5) (q0 := 17) rfl rfl) rfl hl.1 rfl (Nat.le_of_ble_eq_true rfl) dL_law_353 hcc hs6 (fun v9 u9 H locs hp hP hS => ?_)
    obtain ⟨th2_353, r_353⟩ := u9
    obtain ⟨rfl, hd_353⟩ := hp
    try dsimp only at hd_353
    have hP : va_P D vwCl [(h0, .inr (4, [.ref b0, .ref m0, .ref p0, .ref s0, .ref q0, .int (nI q), .int (nI sg), .int rp, .int lo, .int ea])), (b0, .inr (0, [.ref b1, .ref b2, .int (nI k)])), (b1, .inl (cI, 32, .inl T)), (b2, .inl (cI, 8, .inl (nA Lf))), (m0, .inr (1, [.ref m1, .int (nI n)])), (m1, .inl (cI, 24, .inl (nA t))), (p0, .inr (2, [.ref p1, .ref p2, .ref p3, .ref p4, .int (nI cnt)])), (p1, .inl (cI, 25, .inl (nA f))), (p2, .inl (cI, 24, .inl (nA lf))), (p3, .inl (cI, 24, .inl C)), (p4, .inl (cI, 24, .inl (nA ps))), (s0, .inr (2, [.ref s1, .ref s2, .ref s3, .ref s4, .int (nI cnts)])), (s1, .inl (cI, 25, .inl (nA fs))), (s2, .inl (cI, 24, .inl (nA lfs))), (s3, .inl (cI, 24, .inl Cs)), (s4, .inl (cI, 24, .inl (nA pss))), (q0, .inr (3, [.int (nI se), .int (nI gf), .int (nI ak), .int (nI gn)])), (y0, .inr (5, [.int (nI th2_353), .int (nI k), .ref y1, .ref y2, .int (nI n), .ref y3, .int (nI q), .int (nI sg), .int rp, .int lo, .int ea, .ref y4, .ref y5, .int (nI go), .int (nI ak9), .int (nI gn9), .int (nI gf9)])), (y1, .inl (cI, 9, .inl K)), (y2, .inl (cI, 9, .inl (nA Lm))), (y3, .inl (cI, 24, .inl (nA t))), (y4, .inl (cI, 25, .inl (nA f9))), (y5, .inl (cI, 24, .inl C9)), (o, .inl (cL, 1, .inr (.inl fo)))] H := hP
    refine W.eq (g2 := F0 mi 356 ls [.int r_353]) rfl ?_
    obtain ⟨z1, z2⟩ := fnd_no (val := fun j => nI (Lm j)) hcond hd_353
    replace z1 := z1.symm
    subst z1
    replace z2 := z2.symm
    subst z2
    have hP : va_P D vwCl [(h0, .inr (4, [.ref b0, .ref m0, .ref p0, .ref s0, .ref q0, .int (nI q), .int (nI sg), .int rp, .int lo, .int ea])), (b0, .inr (0, [.ref b1, .ref b2, .int (nI k)])), (b1, .inl (cI, 32, .inl T)), (b2, .inl (cI, 8, .inl (nA Lf))), (m0, .inr (1, [.ref m1, .int (nI n)])), (m1, .inl (cI, 24, .inl (nA t))), (p0, .inr (2, [.ref p1, .ref p2, .ref p3, .ref p4, .int (nI cnt)])), (p1, .inl (cI, 25, .inl (nA f))), (p2, .inl (cI, 24, .inl (nA lf))), (p3, .inl (cI, 24, .inl C)), (p4, .inl (cI, 24, .inl (nA ps))), (s0, .inr (2, [.ref s1, .ref s2, .ref s3, .ref s4, .int (nI cnts)])), (s1, .inl (cI, 25, .inl (nA fs))), (s2, .inl (cI, 24, .inl (nA lfs))), (s3, .inl (cI, 24, .inl Cs)), (s4, .inl (cI, 24, .inl (nA pss))), (q0, .inr (3, [.int (nI se), .int (nI gf), .int (nI ak), .int (nI gn)])), (y0, .inr (5, [.int (nI 1), .int (nI k), .ref y1, .ref y2, .int (nI n), .ref y3, .int (nI q), .int (nI sg), .int rp, .int lo, .int ea, .ref y4, .ref y5, .int (nI go), .int (nI ak9), .int (nI gn9), .int (nI gf9)])), (y1, .inl (cI, 9, .inl K)), (y2, .inl (cI, 9, .inl (nA Lm))), (y3, .inl (cI, 24, .inl (nA t))), (y4, .inl (cI, 25, .inl (nA f9))), (y5, .inl (cI, 24, .inl C9)), (o, .inl (cL, 1, .inr (.inl fo)))] H := hP
    refine lv_istore (lv' := [(6, .int (nI 0)), (5, .int (nI 1)), (0, .ref b), (1, .ref h0), (2, .ref y0), (3, .ref o), (4, .int (nI i))]) hx hb dL_law_356 hl (by decide) rfl (fun ls hl => ?_)
    refine lv_aload_n hx hb dL_law_358 rfl (lv_at hl 4 rfl) ?_
    refine z_roV (As := []) (rest := []) ⟨hx, hb, hml, hown, hts⟩ (c_X5_thrown l D cI y0 y1 y2 y3 y4 y5 1 k n q sg rp lo ea go ak9 gn9 gf9) (cwV 0 hts gL_law_X5_thrown rfl rfl rfl hd_X5_thrown ⟨Nat.le_of_ble_eq_true rfl, Nat.le_of_ble_eq_true rfl⟩) ⟨hK, hE⟩ (hP.sub (ws' := [(y0, .inr (5, [.int (nI 1), .int (nI k), .ref y1, .ref y2, .int (nI n), .ref y3, .int (nI q), .int (nI sg), .int rp, .int lo, .int ea, .ref y4, .ref y5, .int (nI go), .int (nI ak9), .int (nI gn9), .int (nI gf9)]))]) [17] rfl) (va_recv hK hP (ci := 5) (q0 := 17) rfl rfl) rfl hl.1 rfl (Nat.le_of_ble_eq_true rfl) dL_law_359 hcc hs6 ?_
    refine lv_iload hx hb dL_law_362 (lv_at hl 1 rfl) ?_
    refine z_icmp_eq (tgt := 369) hx hb dL_law_364 (by decide) (by omega) (by omega) (fun c_364 => ?_) (fun c_364 => ?_)
    · refine lv_iload hx hb dL_law_369 (lv_at hl 1 rfl) ?_
      refine z_if_ne (tgt := 386) hx hb dL_law_371 (by decide) (by omega) (fun c_371 => ?_) (fun c_371 => ?_)
      · refine lv_goto (tgt := 1119) hx hb dL_law_386 (by decide) ?_
        refine W.widen (k := cells + 1) (n := slots + 18) (by omega) (by omega) ?_
        exact kk H locs ls ⟨q, sg, rp, lo, ea, T, Lf, k, t, n, f, lf, C, ps, cnt, fs, lfs, Cs, pss, cnts, se, gf, ak, gn, 1, K, Lm, f9, C9, go, ak9, gn9, gf9, fo, hP, (by omega), (by omega), ht, hq, (by omega), hPC, hCR, hKD⟩ hS (lv_sub hl [2, 3, 4, 5, 6] rfl)
      · exact absurd c_371 (by decide)
    · exact absurd c_364 (by decide)
  · obtain ⟨j_341, rfl⟩ : ∃ z, z = u9 := ⟨_, rfl⟩
    obtain ⟨rfl, hr9, hj_341⟩ := hp
    try dsimp only at hr9
    have hr8 := (Value.int.inj (Option.some.inj hr9)).symm
    subst hr8
    try dsimp only at hj_341
    have hP : va_P D vwCl [(h0, .inr (4, [.ref b0, .ref m0, .ref p0, .ref s0, .ref q0, .int (nI q), .int (nI sg), .int rp, .int lo, .int ea])), (b0, .inr (0, [.ref b1, .ref b2, .int (nI k)])), (b1, .inl (cI, 32, .inl T)), (b2, .inl (cI, 8, .inl (nA Lf))), (m0, .inr (1, [.ref m1, .int (nI n)])), (m1, .inl (cI, 24, .inl (nA t))), (p0, .inr (2, [.ref p1, .ref p2, .ref p3, .ref p4, .int (nI cnt)])), (p1, .inl (cI, 25, .inl (nA f))), (p2, .inl (cI, 24, .inl (nA lf))), (p3, .inl (cI, 24, .inl C)), (p4, .inl (cI, 24, .inl (nA ps))), (s0, .inr (2, [.ref s1, .ref s2, .ref s3, .ref s4, .int (nI cnts)])), (s1, .inl (cI, 25, .inl (nA fs))), (s2, .inl (cI, 24, .inl (nA lfs))), (s3, .inl (cI, 24, .inl Cs)), (s4, .inl (cI, 24, .inl (nA pss))), (q0, .inr (3, [.int (nI se), .int (nI gf), .int (nI ak), .int (nI gn)])), (y0, .inr (5, [.int (nI th), .int (nI k), .ref y1, .ref y2, .int (nI n), .ref y3, .int (nI q), .int (nI sg), .int rp, .int lo, .int ea, .ref y4, .ref y5, .int (nI go), .int (nI ak9), .int (nI gn9), .int (nI gf9)])), (y1, .inl (cI, 9, .inl K)), (y2, .inl (cI, 9, .inl (nA Lm))), (y3, .inl (cI, 24, .inl (nA t))), (y4, .inl (cI, 25, .inl (nA f9))), (y5, .inl (cI, 24, .inl C9)), (o, .inl (cL, 1, .inr (.inl (vp_updL fo 0 ((nI (Lf j_341)).toInt64)))))] H := hP
    refine W.eq (g2 := F0 mi 344 ls [.int (nI 0)]) rfl ?_
    refine lv_istore (lv' := [(5, .int (nI 0)), (0, .ref b), (1, .ref h0), (2, .ref y0), (3, .ref o), (4, .int (nI i))]) hx hb dL_law_344 hl (by decide) rfl (fun ls hl => ?_)
    refine lv_aload_n hx hb dL_law_346 rfl (lv_at hl 3 rfl) ?_
    refine lv_aload_n hx hb dL_law_347 rfl (lv_at hl 1 rfl) ?_
    refine lv_iload hx hb dL_law_348 (lv_at hl 5 rfl) ?_
    refine lv_iconst (v := nI 1) hx hb dL_law_350 ci_1 ?_
    refine z_iadd hx hb dL_law_351 ?_
    refine z_sld hx hb hX hbl hbA hS (by omega) (by omega) dL_law_352 ?_
    refine z_muV (As := [.int (xs (i + 1))]) (rest := []) ⟨hx, hb, hml, hown, hts⟩ (c_X5_lengthOf l D cI y0 y1 y2 y3 y4 y5 th k n q sg rp lo ea go ak9 gn9 gf9 Lm (xs (i + 1)) (by first | assumption | omega)) (cwV 1 hts gL_law_X5_lengthOf rfl rfl rfl hd_X5_lengthOf ⟨Nat.le_of_ble_eq_true rfl, Nat.le_of_ble_eq_true rfl⟩) ⟨hK, hE⟩ hP hD rfl hS [17, 19] (by decide) rfl (fun _ => rfl) (va_recv hK hP (ci := 5) (q0 := 17) rfl rfl) rfl hl.1 rfl (Nat.le_of_ble_eq_true rfl) dL_law_353 hcc hs6 (fun v9 u9 H locs hp hP hS => ?_)
    obtain ⟨th2_353, r_353⟩ := u9
    obtain ⟨rfl, hd_353⟩ := hp
    try dsimp only at hd_353
    have hP : va_P D vwCl [(h0, .inr (4, [.ref b0, .ref m0, .ref p0, .ref s0, .ref q0, .int (nI q), .int (nI sg), .int rp, .int lo, .int ea])), (b0, .inr (0, [.ref b1, .ref b2, .int (nI k)])), (b1, .inl (cI, 32, .inl T)), (b2, .inl (cI, 8, .inl (nA Lf))), (m0, .inr (1, [.ref m1, .int (nI n)])), (m1, .inl (cI, 24, .inl (nA t))), (p0, .inr (2, [.ref p1, .ref p2, .ref p3, .ref p4, .int (nI cnt)])), (p1, .inl (cI, 25, .inl (nA f))), (p2, .inl (cI, 24, .inl (nA lf))), (p3, .inl (cI, 24, .inl C)), (p4, .inl (cI, 24, .inl (nA ps))), (s0, .inr (2, [.ref s1, .ref s2, .ref s3, .ref s4, .int (nI cnts)])), (s1, .inl (cI, 25, .inl (nA fs))), (s2, .inl (cI, 24, .inl (nA lfs))), (s3, .inl (cI, 24, .inl Cs)), (s4, .inl (cI, 24, .inl (nA pss))), (q0, .inr (3, [.int (nI se), .int (nI gf), .int (nI ak), .int (nI gn)])), (y0, .inr (5, [.int (nI th2_353), .int (nI k), .ref y1, .ref y2, .int (nI n), .ref y3, .int (nI q), .int (nI sg), .int rp, .int lo, .int ea, .ref y4, .ref y5, .int (nI go), .int (nI ak9), .int (nI gn9), .int (nI gf9)])), (y1, .inl (cI, 9, .inl K)), (y2, .inl (cI, 9, .inl (nA Lm))), (y3, .inl (cI, 24, .inl (nA t))), (y4, .inl (cI, 25, .inl (nA f9))), (y5, .inl (cI, 24, .inl C9)), (o, .inl (cL, 1, .inr (.inl (vp_updL fo 0 ((nI (Lf j_341)).toInt64)))))] H := hP
    refine W.eq (g2 := F0 mi 356 ls [.int r_353]) rfl ?_
    obtain ⟨z1, z2⟩ := fnd_eq (val := fun j => nI (Lm j)) (by omega) hj_341 hd_353
    replace z1 := z1.symm
    subst z1
    replace z2 := z2.symm
    subst z2
    have hP : va_P D vwCl [(h0, .inr (4, [.ref b0, .ref m0, .ref p0, .ref s0, .ref q0, .int (nI q), .int (nI sg), .int rp, .int lo, .int ea])), (b0, .inr (0, [.ref b1, .ref b2, .int (nI k)])), (b1, .inl (cI, 32, .inl T)), (b2, .inl (cI, 8, .inl (nA Lf))), (m0, .inr (1, [.ref m1, .int (nI n)])), (m1, .inl (cI, 24, .inl (nA t))), (p0, .inr (2, [.ref p1, .ref p2, .ref p3, .ref p4, .int (nI cnt)])), (p1, .inl (cI, 25, .inl (nA f))), (p2, .inl (cI, 24, .inl (nA lf))), (p3, .inl (cI, 24, .inl C)), (p4, .inl (cI, 24, .inl (nA ps))), (s0, .inr (2, [.ref s1, .ref s2, .ref s3, .ref s4, .int (nI cnts)])), (s1, .inl (cI, 25, .inl (nA fs))), (s2, .inl (cI, 24, .inl (nA lfs))), (s3, .inl (cI, 24, .inl Cs)), (s4, .inl (cI, 24, .inl (nA pss))), (q0, .inr (3, [.int (nI se), .int (nI gf), .int (nI ak), .int (nI gn)])), (y0, .inr (5, [.int (nI 0), .int (nI k), .ref y1, .ref y2, .int (nI n), .ref y3, .int (nI q), .int (nI sg), .int rp, .int lo, .int ea, .ref y4, .ref y5, .int (nI go), .int (nI ak9), .int (nI gn9), .int (nI gf9)])), (y1, .inl (cI, 9, .inl K)), (y2, .inl (cI, 9, .inl (nA Lm))), (y3, .inl (cI, 24, .inl (nA t))), (y4, .inl (cI, 25, .inl (nA f9))), (y5, .inl (cI, 24, .inl C9)), (o, .inl (cL, 1, .inr (.inl (vp_updL fo 0 ((nI (Lf j_341)).toInt64)))))] H := hP
    refine lv_istore (lv' := [(6, .int (nI (Lm j_341))), (5, .int (nI 0)), (0, .ref b), (1, .ref h0), (2, .ref y0), (3, .ref o), (4, .int (nI i))]) hx hb dL_law_356 hl (by decide) rfl (fun ls hl => ?_)
    refine lv_aload_n hx hb dL_law_358 rfl (lv_at hl 4 rfl) ?_
    refine z_roV (As := []) (rest := []) ⟨hx, hb, hml, hown, hts⟩ (c_X5_thrown l D cI y0 y1 y2 y3 y4 y5 0 k n q sg rp lo ea go ak9 gn9 gf9) (cwV 0 hts gL_law_X5_thrown rfl rfl rfl hd_X5_thrown ⟨Nat.le_of_ble_eq_true rfl, Nat.le_of_ble_eq_true rfl⟩) ⟨hK, hE⟩ (hP.sub (ws' := [(y0, .inr (5, [.int (nI 0), .int (nI k), .ref y1, .ref y2, .int (nI n), .ref y3, .int (nI q), .int (nI sg), .int rp, .int lo, .int ea, .ref y4, .ref y5, .int (nI go), .int (nI ak9), .int (nI gn9), .int (nI gf9)]))]) [17] rfl) (va_recv hK hP (ci := 5) (q0 := 17) rfl rfl) rfl hl.1 rfl (Nat.le_of_ble_eq_true rfl) dL_law_359 hcc hs6 ?_
    refine lv_iload hx hb dL_law_362 (lv_at hl 1 rfl) ?_
    refine z_icmp_eq (tgt := 369) hx hb dL_law_364 (by decide) (by omega) (by omega) (fun c_364 => ?_) (fun c_364 => ?_)
    · refine lv_iload hx hb dL_law_369 (lv_at hl 1 rfl) ?_
      refine z_if_ne (tgt := 386) hx hb dL_law_371 (by decide) (by omega) (fun c_371 => ?_) (fun c_371 => ?_)
      · exact absurd c_371 (by decide)
      · refine lv_aload_n hx hb dL_law_374 rfl (lv_at hl 5 rfl) ?_
        refine lv_iconst (v := nI 0) hx hb dL_law_375 ci_0 ?_
        refine z_lald0 hx hb hKL hP 23 rfl dL_law_376 ?_
        refine lv_iload hx hb dL_law_377 (lv_at hl 0 rfl) ?_
        refine lv_i2l hx hb dL_law_379 rfl ?_
        refine z_lcmpS hx hb (vp0.trans (congrArg Int32.toInt64 (congrArg nI (hCR _ hj_341.1).2.2.2.symm))) dL_law_380 ?_
        refine z_if_eq (tgt := 386) hx hb dL_law_381 (by decide) (by omega) (fun c_381 => ?_) (fun c_381 => ?_)
        · refine lv_goto (tgt := 1119) hx hb dL_law_386 (by decide) ?_
          refine W.widen (k := cells + 1) (n := slots + 18) (by omega) (by omega) ?_
          exact kk H locs ls ⟨q, sg, rp, lo, ea, T, Lf, k, t, n, f, lf, C, ps, cnt, fs, lfs, Cs, pss, cnts, se, gf, ak, gn, 0, K, Lm, f9, C9, go, ak9, gn9, gf9, (vp_updL fo 0 ((nI (Lf j_341)).toInt64)), hP, (by omega), (by omega), ht, hq, (by omega), hPC, hCR, hKD⟩ hS (lv_sub hl [2, 3, 4, 5, 6] rfl)
        · exact absurd c_381 (by decide)
    · exact absurd c_364 (by decide)
set_option maxHeartbeats 4000000 in
set_option maxRecDepth 100000 in
theorem arm_typeOf {pg : Program} {l : Launch} {ev : Env} {sv : State} {mi : MethodId} {ag : Array Value} {bl : List Frame} {mt : Method} {cd : Code} {H : Heap} {locs : List Loc} {cells slots : Nat} {Q : State → Prop} {ls : Array Slot} {D : va_G} {cI cL : ClassId} {A : Nat → Prop} {H0 : Heap} {b L : Nat} {xs : Nat → Int32} {h0 b0 b1 b2 m0 m1 p0 p1 p2 p3 p4 s0 s1 s2 s3 s4 q0 y0 y1 y2 y3 y4 y5 o sgB i : Nat} (hCx : LCx pg l sv mi ag cd D cI cL A H0 b L xs [h0, b0, b1, b2, m0, m1, p0, p1, p2, p3, p4, s0, s1, s2, s3, s4, q0, y0, y1, y2, y3, y4, y5, o]) (hI : LInv D cI cL h0 b0 b1 b2 m0 m1 p0 p1 p2 p3 p4 s0 s1 s2 s3 s4 q0 y0 y1 y2 y3 y4 y5 o sgB H) (hS : va_S A H0 H locs) (hl : lv_has ls 9 [(0, .ref b), (1, .ref h0), (2, .ref y0), (3, .ref o), (4, .int (nI i))]) (hi : i + 5 ≤ L) (hsB : sgB ≤ 59000) (hcc : cells + 1 ≤ 601024) (hss : slots + 18 ≤ 7293034)
    (kk : ∀ (H1 : Heap) (locs1 : List Loc) (ls1 : Array Slot), LInv D cI cL h0 b0 b1 b2 m0 m1 p0 p1 p2 p3 p4 s0 s1 s2 s3 s4 q0 y0 y1 y2 y3 y4 y5 o (sgB + 96) H1 → va_S A H0 H1 locs1 → lv_has ls1 9 [(0, .ref b), (1, .ref h0), (2, .ref y0), (3, .ref o), (4, .int (nI i))] → W pg l ev room_1 sv mi ag bl mt cd H1 locs1 (cells + 1) (slots + 18) Q (F0 mi 1119 ls1 [])) : W pg l ev room_1 sv mi ag bl mt cd H locs cells slots Q (F0 mi 515 ls []) := by
  obtain ⟨hx, hb, hml, hts, hown, hKL, hE, hlt, hX, hbl, hbA, hT0, hL9, hD, hA⟩ := hCx
  obtain ⟨q, sg, rp, lo, ea, T, Lf, k, t, n, f, lf, C, ps, cnt, fs, lfs, Cs, pss, cnts, se, gf, ak, gn, th, K, Lm, f9, C9, go, ak9, gn9, gf9, fo, hP, hk, hn, ht, hq, hsg0, hPC, hCR, hKD⟩ := hI
  have hP : va_P D vwCl [(h0, .inr (4, [.ref b0, .ref m0, .ref p0, .ref s0, .ref q0, .int (nI q), .int (nI sg), .int rp, .int lo, .int ea])), (b0, .inr (0, [.ref b1, .ref b2, .int (nI k)])), (b1, .inl (cI, 32, .inl T)), (b2, .inl (cI, 8, .inl (nA Lf))), (m0, .inr (1, [.ref m1, .int (nI n)])), (m1, .inl (cI, 24, .inl (nA t))), (p0, .inr (2, [.ref p1, .ref p2, .ref p3, .ref p4, .int (nI cnt)])), (p1, .inl (cI, 25, .inl (nA f))), (p2, .inl (cI, 24, .inl (nA lf))), (p3, .inl (cI, 24, .inl C)), (p4, .inl (cI, 24, .inl (nA ps))), (s0, .inr (2, [.ref s1, .ref s2, .ref s3, .ref s4, .int (nI cnts)])), (s1, .inl (cI, 25, .inl (nA fs))), (s2, .inl (cI, 24, .inl (nA lfs))), (s3, .inl (cI, 24, .inl Cs)), (s4, .inl (cI, 24, .inl (nA pss))), (q0, .inr (3, [.int (nI se), .int (nI gf), .int (nI ak), .int (nI gn)])), (y0, .inr (5, [.int (nI th), .int (nI k), .ref y1, .ref y2, .int (nI n), .ref y3, .int (nI q), .int (nI sg), .int rp, .int lo, .int ea, .ref y4, .ref y5, .int (nI go), .int (nI ak9), .int (nI gn9), .int (nI gf9)])), (y1, .inl (cI, 9, .inl K)), (y2, .inl (cI, 9, .inl (nA Lm))), (y3, .inl (cI, 24, .inl (nA t))), (y4, .inl (cI, 25, .inl (nA f9))), (y5, .inl (cI, 24, .inl C9)), (o, .inl (cL, 1, .inr (.inl fo)))] H := hP
  have hK := hKL.sub (tys' := [(cI, .int)]) [0] rfl
  have hT := zT.kept hT0 (fun a h1 h2 => hS.2.1 a h1 h2)
  have hL := cr_L hCR
  have hLk := cr_Lm hCR
  have hKk := cr_K hCR
  have hsg : sg ≤ 60000 := by omega
  have hst : ∀ g, g < cnt → ps g < n := fun g hg => by rw [(hPC.2.1 g hg).1]; exact (hPC.2.1 g hg).2
  have hcnt : cnt ≤ 24 := Nat.le_trans hPC.2.2.2 hn
  have hps : ∀ j, j < cnt → ps j < 24 := fun j hj => Nat.lt_of_lt_of_le (hst j hj) hn
  have hc0 : cells ≤ room_1.cells := Nat.le_trans (Nat.le_succ _) hcc
  have hs0 : slots ≤ room_1.slots := Nat.le_trans (Nat.le_add_right _ _) hss
  have hs6 : slots + 6 ≤ room_1.slots := Nat.le_trans (Nat.add_le_add_left (by decide) _) hss
  have hg9 := cr_g ht hCR hKD hPC
  refine lv_aload_n hx hb dL_law_515 rfl (lv_at hl 1 rfl) ?_
  refine lv_aload_n hx hb dL_law_516 rfl (lv_at hl 0 rfl) ?_
  refine lv_iload hx hb dL_law_517 (lv_at hl 4 rfl) ?_
  refine lv_iconst (v := nI 1) hx hb dL_law_519 ci_1 ?_
  refine z_iadd hx hb dL_law_520 ?_
  refine z_sld hx hb hX hbl hbA hS (by omega) (by omega) dL_law_521 ?_
  refine lv_aload_n hx hb dL_law_522 rfl (lv_at hl 3 rfl) ?_
  refine z_lxS (As := [.ref h0, .int (xs (i + 1)), .ref o]) (rest := []) ⟨hx, hb, hml, hown, hts⟩ (c_L_typeOf l D cI cL o fo h0 b0 m0 p0 s0 q0 q sg rp lo ea m1 t n (xs (i + 1)) (by first | assumption | omega) hlt) (vx_cwSW 3 hts gL_law_L_typeOf rfl rfl rfl hd_L_typeOf ⟨Nat.le_of_ble_eq_true rfl, Nat.le_of_ble_eq_true rfl⟩) ⟨hKL, hE⟩ hP hD rfl hS hT [0, 4, 5, 23] (by decide) rfl (fun u => by rcases u with _ | u <;> rfl) rfl hl.1 rfl (Nat.le_of_ble_eq_true rfl) dL_law_523 hcc hs6 (fun v9 u9 H locs hp hP hS hk9 => ?_)
  rcases u9 with _ | ⟨u9, r9⟩
  · obtain ⟨E9, ⟨rfl, hcond⟩, rfl⟩ := hp
    have hP : va_P D vwCl [(h0, .inr (4, [.ref b0, .ref m0, .ref p0, .ref s0, .ref q0, .int (nI q), .int (nI sg), .int rp, .int lo, .int ea])), (b0, .inr (0, [.ref b1, .ref b2, .int (nI k)])), (b1, .inl (cI, 32, .inl T)), (b2, .inl (cI, 8, .inl (nA Lf))), (m0, .inr (1, [.ref m1, .int (nI n)])), (m1, .inl (cI, 24, .inl (nA t))), (p0, .inr (2, [.ref p1, .ref p2, .ref p3, .ref p4, .int (nI cnt)])), (p1, .inl (cI, 25, .inl (nA f))), (p2, .inl (cI, 24, .inl (nA lf))), (p3, .inl (cI, 24, .inl C)), (p4, .inl (cI, 24, .inl (nA ps))), (s0, .inr (2, [.ref s1, .ref s2, .ref s3, .ref s4, .int (nI cnts)])), (s1, .inl (cI, 25, .inl (nA fs))), (s2, .inl (cI, 24, .inl (nA lfs))), (s3, .inl (cI, 24, .inl Cs)), (s4, .inl (cI, 24, .inl (nA pss))), (q0, .inr (3, [.int (nI se), .int (nI gf), .int (nI ak), .int (nI gn)])), (y0, .inr (5, [.int (nI th), .int (nI k), .ref y1, .ref y2, .int (nI n), .ref y3, .int (nI q), .int (nI sg), .int rp, .int lo, .int ea, .ref y4, .ref y5, .int (nI go), .int (nI ak9), .int (nI gn9), .int (nI gf9)])), (y1, .inl (cI, 9, .inl K)), (y2, .inl (cI, 9, .inl (nA Lm))), (y3, .inl (cI, 24, .inl (nA t))), (y4, .inl (cI, 25, .inl (nA f9))), (y5, .inl (cI, 24, .inl C9)), (o, .inl (cL, 1, .inr (.inl fo)))] H := hP
    refine W.eq (g2 := F0 mi 526 ls [.int (nI 1)]) rfl ?_
    refine lv_istore (lv' := [(5, .int (nI 1)), (0, .ref b), (1, .ref h0), (2, .ref y0), (3, .ref o), (4, .int (nI i))]) hx hb dL_law_526 hl (by decide) rfl (fun ls hl => ?_)
    refine lv_aload_n hx hb dL_law_528 rfl (lv_at hl 3 rfl) ?_
    refine lv_aload_n hx hb dL_law_529 rfl (lv_at hl 1 rfl) ?_
    refine lv_iload hx hb dL_law_530 (lv_at hl 5 rfl) ?_
    refine lv_iconst (v := nI 1) hx hb dL_law_532 ci_1 ?_
    refine z_iadd hx hb dL_law_533 ?_
    refine z_sld hx hb hX hbl hbA hS (by omega) (by omega) dL_law_534 ?_
    refine z_muV (As := [.int (xs (i + 1))]) (rest := []) ⟨hx, hb, hml, hown, hts⟩ (c_X5_typeOf l D cI y0 y1 y2 y3 y4 y5 th k n q sg rp lo ea go ak9 gn9 gf9 t (xs (i + 1)) (by first | assumption | omega)) (cwV 1 hts gL_law_X5_typeOf rfl rfl rfl hd_X5_typeOf ⟨Nat.le_of_ble_eq_true rfl, Nat.le_of_ble_eq_true rfl⟩) ⟨hK, hE⟩ hP hD rfl hS [17, 20] (by decide) rfl (fun _ => rfl) (va_recv hK hP (ci := 5) (q0 := 17) rfl rfl) rfl hl.1 rfl (Nat.le_of_ble_eq_true rfl) dL_law_535 hcc hs6 (fun v9 u9 H locs hp hP hS => ?_)
    obtain ⟨th2_535, r_535⟩ := u9
    obtain ⟨rfl, hd_535⟩ := hp
    try dsimp only at hd_535
    have hP : va_P D vwCl [(h0, .inr (4, [.ref b0, .ref m0, .ref p0, .ref s0, .ref q0, .int (nI q), .int (nI sg), .int rp, .int lo, .int ea])), (b0, .inr (0, [.ref b1, .ref b2, .int (nI k)])), (b1, .inl (cI, 32, .inl T)), (b2, .inl (cI, 8, .inl (nA Lf))), (m0, .inr (1, [.ref m1, .int (nI n)])), (m1, .inl (cI, 24, .inl (nA t))), (p0, .inr (2, [.ref p1, .ref p2, .ref p3, .ref p4, .int (nI cnt)])), (p1, .inl (cI, 25, .inl (nA f))), (p2, .inl (cI, 24, .inl (nA lf))), (p3, .inl (cI, 24, .inl C)), (p4, .inl (cI, 24, .inl (nA ps))), (s0, .inr (2, [.ref s1, .ref s2, .ref s3, .ref s4, .int (nI cnts)])), (s1, .inl (cI, 25, .inl (nA fs))), (s2, .inl (cI, 24, .inl (nA lfs))), (s3, .inl (cI, 24, .inl Cs)), (s4, .inl (cI, 24, .inl (nA pss))), (q0, .inr (3, [.int (nI se), .int (nI gf), .int (nI ak), .int (nI gn)])), (y0, .inr (5, [.int (nI th2_535), .int (nI k), .ref y1, .ref y2, .int (nI n), .ref y3, .int (nI q), .int (nI sg), .int rp, .int lo, .int ea, .ref y4, .ref y5, .int (nI go), .int (nI ak9), .int (nI gn9), .int (nI gf9)])), (y1, .inl (cI, 9, .inl K)), (y2, .inl (cI, 9, .inl (nA Lm))), (y3, .inl (cI, 24, .inl (nA t))), (y4, .inl (cI, 25, .inl (nA f9))), (y5, .inl (cI, 24, .inl C9)), (o, .inl (cL, 1, .inr (.inl fo)))] H := hP
    refine W.eq (g2 := F0 mi 538 ls [.int r_535]) rfl ?_
    obtain ⟨z1, z2⟩ := fnd_no (val := fun j => nI (t j)) hcond hd_535
    replace z1 := z1.symm
    subst z1
    replace z2 := z2.symm
    subst z2
    have hP : va_P D vwCl [(h0, .inr (4, [.ref b0, .ref m0, .ref p0, .ref s0, .ref q0, .int (nI q), .int (nI sg), .int rp, .int lo, .int ea])), (b0, .inr (0, [.ref b1, .ref b2, .int (nI k)])), (b1, .inl (cI, 32, .inl T)), (b2, .inl (cI, 8, .inl (nA Lf))), (m0, .inr (1, [.ref m1, .int (nI n)])), (m1, .inl (cI, 24, .inl (nA t))), (p0, .inr (2, [.ref p1, .ref p2, .ref p3, .ref p4, .int (nI cnt)])), (p1, .inl (cI, 25, .inl (nA f))), (p2, .inl (cI, 24, .inl (nA lf))), (p3, .inl (cI, 24, .inl C)), (p4, .inl (cI, 24, .inl (nA ps))), (s0, .inr (2, [.ref s1, .ref s2, .ref s3, .ref s4, .int (nI cnts)])), (s1, .inl (cI, 25, .inl (nA fs))), (s2, .inl (cI, 24, .inl (nA lfs))), (s3, .inl (cI, 24, .inl Cs)), (s4, .inl (cI, 24, .inl (nA pss))), (q0, .inr (3, [.int (nI se), .int (nI gf), .int (nI ak), .int (nI gn)])), (y0, .inr (5, [.int (nI 1), .int (nI k), .ref y1, .ref y2, .int (nI n), .ref y3, .int (nI q), .int (nI sg), .int rp, .int lo, .int ea, .ref y4, .ref y5, .int (nI go), .int (nI ak9), .int (nI gn9), .int (nI gf9)])), (y1, .inl (cI, 9, .inl K)), (y2, .inl (cI, 9, .inl (nA Lm))), (y3, .inl (cI, 24, .inl (nA t))), (y4, .inl (cI, 25, .inl (nA f9))), (y5, .inl (cI, 24, .inl C9)), (o, .inl (cL, 1, .inr (.inl fo)))] H := hP
    refine lv_istore (lv' := [(6, .int (nI 0)), (5, .int (nI 1)), (0, .ref b), (1, .ref h0), (2, .ref y0), (3, .ref o), (4, .int (nI i))]) hx hb dL_law_538 hl (by decide) rfl (fun ls hl => ?_)
    refine lv_aload_n hx hb dL_law_540 rfl (lv_at hl 4 rfl) ?_
    refine z_roV (As := []) (rest := []) ⟨hx, hb, hml, hown, hts⟩ (c_X5_thrown l D cI y0 y1 y2 y3 y4 y5 1 k n q sg rp lo ea go ak9 gn9 gf9) (cwV 0 hts gL_law_X5_thrown rfl rfl rfl hd_X5_thrown ⟨Nat.le_of_ble_eq_true rfl, Nat.le_of_ble_eq_true rfl⟩) ⟨hK, hE⟩ (hP.sub (ws' := [(y0, .inr (5, [.int (nI 1), .int (nI k), .ref y1, .ref y2, .int (nI n), .ref y3, .int (nI q), .int (nI sg), .int rp, .int lo, .int ea, .ref y4, .ref y5, .int (nI go), .int (nI ak9), .int (nI gn9), .int (nI gf9)]))]) [17] rfl) (va_recv hK hP (ci := 5) (q0 := 17) rfl rfl) rfl hl.1 rfl (Nat.le_of_ble_eq_true rfl) dL_law_541 hcc hs6 ?_
    refine lv_iload hx hb dL_law_544 (lv_at hl 1 rfl) ?_
    refine z_icmp_eq (tgt := 551) hx hb dL_law_546 (by decide) (by omega) (by omega) (fun c_546 => ?_) (fun c_546 => ?_)
    · refine lv_iload hx hb dL_law_551 (lv_at hl 1 rfl) ?_
      refine z_if_ne (tgt := 568) hx hb dL_law_553 (by decide) (by omega) (fun c_553 => ?_) (fun c_553 => ?_)
      · refine lv_goto (tgt := 1119) hx hb dL_law_568 (by decide) ?_
        refine W.widen (k := cells + 1) (n := slots + 18) (by omega) (by omega) ?_
        exact kk H locs ls ⟨q, sg, rp, lo, ea, T, Lf, k, t, n, f, lf, C, ps, cnt, fs, lfs, Cs, pss, cnts, se, gf, ak, gn, 1, K, Lm, f9, C9, go, ak9, gn9, gf9, fo, hP, (by omega), (by omega), ht, hq, (by omega), hPC, hCR, hKD⟩ hS (lv_sub hl [2, 3, 4, 5, 6] rfl)
      · exact absurd c_553 (by decide)
    · exact absurd c_546 (by decide)
  · obtain ⟨j_523, rfl⟩ : ∃ z, z = u9 := ⟨_, rfl⟩
    obtain ⟨rfl, hr9, hj_523⟩ := hp
    try dsimp only at hr9
    have hr8 := (Value.int.inj (Option.some.inj hr9)).symm
    subst hr8
    try dsimp only at hj_523
    have hP : va_P D vwCl [(h0, .inr (4, [.ref b0, .ref m0, .ref p0, .ref s0, .ref q0, .int (nI q), .int (nI sg), .int rp, .int lo, .int ea])), (b0, .inr (0, [.ref b1, .ref b2, .int (nI k)])), (b1, .inl (cI, 32, .inl T)), (b2, .inl (cI, 8, .inl (nA Lf))), (m0, .inr (1, [.ref m1, .int (nI n)])), (m1, .inl (cI, 24, .inl (nA t))), (p0, .inr (2, [.ref p1, .ref p2, .ref p3, .ref p4, .int (nI cnt)])), (p1, .inl (cI, 25, .inl (nA f))), (p2, .inl (cI, 24, .inl (nA lf))), (p3, .inl (cI, 24, .inl C)), (p4, .inl (cI, 24, .inl (nA ps))), (s0, .inr (2, [.ref s1, .ref s2, .ref s3, .ref s4, .int (nI cnts)])), (s1, .inl (cI, 25, .inl (nA fs))), (s2, .inl (cI, 24, .inl (nA lfs))), (s3, .inl (cI, 24, .inl Cs)), (s4, .inl (cI, 24, .inl (nA pss))), (q0, .inr (3, [.int (nI se), .int (nI gf), .int (nI ak), .int (nI gn)])), (y0, .inr (5, [.int (nI th), .int (nI k), .ref y1, .ref y2, .int (nI n), .ref y3, .int (nI q), .int (nI sg), .int rp, .int lo, .int ea, .ref y4, .ref y5, .int (nI go), .int (nI ak9), .int (nI gn9), .int (nI gf9)])), (y1, .inl (cI, 9, .inl K)), (y2, .inl (cI, 9, .inl (nA Lm))), (y3, .inl (cI, 24, .inl (nA t))), (y4, .inl (cI, 25, .inl (nA f9))), (y5, .inl (cI, 24, .inl C9)), (o, .inl (cL, 1, .inr (.inl (vp_updL fo 0 ((nI (t j_523)).toInt64)))))] H := hP
    refine W.eq (g2 := F0 mi 526 ls [.int (nI 0)]) rfl ?_
    refine lv_istore (lv' := [(5, .int (nI 0)), (0, .ref b), (1, .ref h0), (2, .ref y0), (3, .ref o), (4, .int (nI i))]) hx hb dL_law_526 hl (by decide) rfl (fun ls hl => ?_)
    refine lv_aload_n hx hb dL_law_528 rfl (lv_at hl 3 rfl) ?_
    refine lv_aload_n hx hb dL_law_529 rfl (lv_at hl 1 rfl) ?_
    refine lv_iload hx hb dL_law_530 (lv_at hl 5 rfl) ?_
    refine lv_iconst (v := nI 1) hx hb dL_law_532 ci_1 ?_
    refine z_iadd hx hb dL_law_533 ?_
    refine z_sld hx hb hX hbl hbA hS (by omega) (by omega) dL_law_534 ?_
    refine z_muV (As := [.int (xs (i + 1))]) (rest := []) ⟨hx, hb, hml, hown, hts⟩ (c_X5_typeOf l D cI y0 y1 y2 y3 y4 y5 th k n q sg rp lo ea go ak9 gn9 gf9 t (xs (i + 1)) (by first | assumption | omega)) (cwV 1 hts gL_law_X5_typeOf rfl rfl rfl hd_X5_typeOf ⟨Nat.le_of_ble_eq_true rfl, Nat.le_of_ble_eq_true rfl⟩) ⟨hK, hE⟩ hP hD rfl hS [17, 20] (by decide) rfl (fun _ => rfl) (va_recv hK hP (ci := 5) (q0 := 17) rfl rfl) rfl hl.1 rfl (Nat.le_of_ble_eq_true rfl) dL_law_535 hcc hs6 (fun v9 u9 H locs hp hP hS => ?_)
    obtain ⟨th2_535, r_535⟩ := u9
    obtain ⟨rfl, hd_535⟩ := hp
    try dsimp only at hd_535
    have hP : va_P D vwCl [(h0, .inr (4, [.ref b0, .ref m0, .ref p0, .ref s0, .ref q0, .int (nI q), .int (nI sg), .int rp, .int lo, .int ea])), (b0, .inr (0, [.ref b1, .ref b2, .int (nI k)])), (b1, .inl (cI, 32, .inl T)), (b2, .inl (cI, 8, .inl (nA Lf))), (m0, .inr (1, [.ref m1, .int (nI n)])), (m1, .inl (cI, 24, .inl (nA t))), (p0, .inr (2, [.ref p1, .ref p2, .ref p3, .ref p4, .int (nI cnt)])), (p1, .inl (cI, 25, .inl (nA f))), (p2, .inl (cI, 24, .inl (nA lf))), (p3, .inl (cI, 24, .inl C)), (p4, .inl (cI, 24, .inl (nA ps))), (s0, .inr (2, [.ref s1, .ref s2, .ref s3, .ref s4, .int (nI cnts)])), (s1, .inl (cI, 25, .inl (nA fs))), (s2, .inl (cI, 24, .inl (nA lfs))), (s3, .inl (cI, 24, .inl Cs)), (s4, .inl (cI, 24, .inl (nA pss))), (q0, .inr (3, [.int (nI se), .int (nI gf), .int (nI ak), .int (nI gn)])), (y0, .inr (5, [.int (nI th2_535), .int (nI k), .ref y1, .ref y2, .int (nI n), .ref y3, .int (nI q), .int (nI sg), .int rp, .int lo, .int ea, .ref y4, .ref y5, .int (nI go), .int (nI ak9), .int (nI gn9), .int (nI gf9)])), (y1, .inl (cI, 9, .inl K)), (y2, .inl (cI, 9, .inl (nA Lm))), (y3, .inl (cI, 24, .inl (nA t))), (y4, .inl (cI, 25, .inl (nA f9))), (y5, .inl (cI, 24, .inl C9)), (o, .inl (cL, 1, .inr (.inl (vp_updL fo 0 ((nI (t j_523)).toInt64)))))] H := hP
    refine W.eq (g2 := F0 mi 538 ls [.int r_535]) rfl ?_
    obtain ⟨z1, z2⟩ := fnd_eq (val := fun j => nI (t j)) (by omega) hj_523 hd_535
    replace z1 := z1.symm
    subst z1
    replace z2 := z2.symm
    subst z2
    have hP : va_P D vwCl [(h0, .inr (4, [.ref b0, .ref m0, .ref p0, .ref s0, .ref q0, .int (nI q), .int (nI sg), .int rp, .int lo, .int ea])), (b0, .inr (0, [.ref b1, .ref b2, .int (nI k)])), (b1, .inl (cI, 32, .inl T)), (b2, .inl (cI, 8, .inl (nA Lf))), (m0, .inr (1, [.ref m1, .int (nI n)])), (m1, .inl (cI, 24, .inl (nA t))), (p0, .inr (2, [.ref p1, .ref p2, .ref p3, .ref p4, .int (nI cnt)])), (p1, .inl (cI, 25, .inl (nA f))), (p2, .inl (cI, 24, .inl (nA lf))), (p3, .inl (cI, 24, .inl C)), (p4, .inl (cI, 24, .inl (nA ps))), (s0, .inr (2, [.ref s1, .ref s2, .ref s3, .ref s4, .int (nI cnts)])), (s1, .inl (cI, 25, .inl (nA fs))), (s2, .inl (cI, 24, .inl (nA lfs))), (s3, .inl (cI, 24, .inl Cs)), (s4, .inl (cI, 24, .inl (nA pss))), (q0, .inr (3, [.int (nI se), .int (nI gf), .int (nI ak), .int (nI gn)])), (y0, .inr (5, [.int (nI 0), .int (nI k), .ref y1, .ref y2, .int (nI n), .ref y3, .int (nI q), .int (nI sg), .int rp, .int lo, .int ea, .ref y4, .ref y5, .int (nI go), .int (nI ak9), .int (nI gn9), .int (nI gf9)])), (y1, .inl (cI, 9, .inl K)), (y2, .inl (cI, 9, .inl (nA Lm))), (y3, .inl (cI, 24, .inl (nA t))), (y4, .inl (cI, 25, .inl (nA f9))), (y5, .inl (cI, 24, .inl C9)), (o, .inl (cL, 1, .inr (.inl (vp_updL fo 0 ((nI (t j_523)).toInt64)))))] H := hP
    refine lv_istore (lv' := [(6, .int (nI (t j_523))), (5, .int (nI 0)), (0, .ref b), (1, .ref h0), (2, .ref y0), (3, .ref o), (4, .int (nI i))]) hx hb dL_law_538 hl (by decide) rfl (fun ls hl => ?_)
    refine lv_aload_n hx hb dL_law_540 rfl (lv_at hl 4 rfl) ?_
    refine z_roV (As := []) (rest := []) ⟨hx, hb, hml, hown, hts⟩ (c_X5_thrown l D cI y0 y1 y2 y3 y4 y5 0 k n q sg rp lo ea go ak9 gn9 gf9) (cwV 0 hts gL_law_X5_thrown rfl rfl rfl hd_X5_thrown ⟨Nat.le_of_ble_eq_true rfl, Nat.le_of_ble_eq_true rfl⟩) ⟨hK, hE⟩ (hP.sub (ws' := [(y0, .inr (5, [.int (nI 0), .int (nI k), .ref y1, .ref y2, .int (nI n), .ref y3, .int (nI q), .int (nI sg), .int rp, .int lo, .int ea, .ref y4, .ref y5, .int (nI go), .int (nI ak9), .int (nI gn9), .int (nI gf9)]))]) [17] rfl) (va_recv hK hP (ci := 5) (q0 := 17) rfl rfl) rfl hl.1 rfl (Nat.le_of_ble_eq_true rfl) dL_law_541 hcc hs6 ?_
    refine lv_iload hx hb dL_law_544 (lv_at hl 1 rfl) ?_
    refine z_icmp_eq (tgt := 551) hx hb dL_law_546 (by decide) (by omega) (by omega) (fun c_546 => ?_) (fun c_546 => ?_)
    · refine lv_iload hx hb dL_law_551 (lv_at hl 1 rfl) ?_
      refine z_if_ne (tgt := 568) hx hb dL_law_553 (by decide) (by omega) (fun c_553 => ?_) (fun c_553 => ?_)
      · exact absurd c_553 (by decide)
      · refine lv_aload_n hx hb dL_law_556 rfl (lv_at hl 5 rfl) ?_
        refine lv_iconst (v := nI 0) hx hb dL_law_557 ci_0 ?_
        refine z_lald0 hx hb hKL hP 23 rfl dL_law_558 ?_
        refine lv_iload hx hb dL_law_559 (lv_at hl 0 rfl) ?_
        refine lv_i2l hx hb dL_law_561 rfl ?_
        refine z_lcmpS hx hb (vp0.trans (congrArg Int32.toInt64 (rfl))) dL_law_562 ?_
        refine z_if_eq (tgt := 568) hx hb dL_law_563 (by decide) (by omega) (fun c_563 => ?_) (fun c_563 => ?_)
        · refine lv_goto (tgt := 1119) hx hb dL_law_568 (by decide) ?_
          refine W.widen (k := cells + 1) (n := slots + 18) (by omega) (by omega) ?_
          exact kk H locs ls ⟨q, sg, rp, lo, ea, T, Lf, k, t, n, f, lf, C, ps, cnt, fs, lfs, Cs, pss, cnts, se, gf, ak, gn, 0, K, Lm, f9, C9, go, ak9, gn9, gf9, (vp_updL fo 0 ((nI (t j_523)).toInt64)), hP, (by omega), (by omega), ht, hq, (by omega), hPC, hCR, hKD⟩ hS (lv_sub hl [2, 3, 4, 5, 6] rfl)
        · exact absurd c_563 (by decide)
    · exact absurd c_546 (by decide)
set_option maxHeartbeats 4000000 in
set_option maxRecDepth 100000 in
theorem arm_codeOf {pg : Program} {l : Launch} {ev : Env} {sv : State} {mi : MethodId} {ag : Array Value} {bl : List Frame} {mt : Method} {cd : Code} {H : Heap} {locs : List Loc} {cells slots : Nat} {Q : State → Prop} {ls : Array Slot} {D : va_G} {cI cL : ClassId} {A : Nat → Prop} {H0 : Heap} {b L : Nat} {xs : Nat → Int32} {h0 b0 b1 b2 m0 m1 p0 p1 p2 p3 p4 s0 s1 s2 s3 s4 q0 y0 y1 y2 y3 y4 y5 o sgB i : Nat} (hCx : LCx pg l sv mi ag cd D cI cL A H0 b L xs [h0, b0, b1, b2, m0, m1, p0, p1, p2, p3, p4, s0, s1, s2, s3, s4, q0, y0, y1, y2, y3, y4, y5, o]) (hI : LInv D cI cL h0 b0 b1 b2 m0 m1 p0 p1 p2 p3 p4 s0 s1 s2 s3 s4 q0 y0 y1 y2 y3 y4 y5 o sgB H) (hS : va_S A H0 H locs) (hl : lv_has ls 9 [(0, .ref b), (1, .ref h0), (2, .ref y0), (3, .ref o), (4, .int (nI i))]) (hi : i + 5 ≤ L) (hsB : sgB ≤ 59000) (hcc : cells + 1 ≤ 601024) (hss : slots + 18 ≤ 7293034)
    (kk : ∀ (H1 : Heap) (locs1 : List Loc) (ls1 : Array Slot), LInv D cI cL h0 b0 b1 b2 m0 m1 p0 p1 p2 p3 p4 s0 s1 s2 s3 s4 q0 y0 y1 y2 y3 y4 y5 o (sgB + 96) H1 → va_S A H0 H1 locs1 → lv_has ls1 9 [(0, .ref b), (1, .ref h0), (2, .ref y0), (3, .ref o), (4, .int (nI i))] → W pg l ev room_1 sv mi ag bl mt cd H1 locs1 (cells + 1) (slots + 18) Q (F0 mi 1119 ls1 [])) : W pg l ev room_1 sv mi ag bl mt cd H locs cells slots Q (F0 mi 584 ls []) := by
  obtain ⟨hx, hb, hml, hts, hown, hKL, hE, hlt, hX, hbl, hbA, hT0, hL9, hD, hA⟩ := hCx
  obtain ⟨q, sg, rp, lo, ea, T, Lf, k, t, n, f, lf, C, ps, cnt, fs, lfs, Cs, pss, cnts, se, gf, ak, gn, th, K, Lm, f9, C9, go, ak9, gn9, gf9, fo, hP, hk, hn, ht, hq, hsg0, hPC, hCR, hKD⟩ := hI
  have hP : va_P D vwCl [(h0, .inr (4, [.ref b0, .ref m0, .ref p0, .ref s0, .ref q0, .int (nI q), .int (nI sg), .int rp, .int lo, .int ea])), (b0, .inr (0, [.ref b1, .ref b2, .int (nI k)])), (b1, .inl (cI, 32, .inl T)), (b2, .inl (cI, 8, .inl (nA Lf))), (m0, .inr (1, [.ref m1, .int (nI n)])), (m1, .inl (cI, 24, .inl (nA t))), (p0, .inr (2, [.ref p1, .ref p2, .ref p3, .ref p4, .int (nI cnt)])), (p1, .inl (cI, 25, .inl (nA f))), (p2, .inl (cI, 24, .inl (nA lf))), (p3, .inl (cI, 24, .inl C)), (p4, .inl (cI, 24, .inl (nA ps))), (s0, .inr (2, [.ref s1, .ref s2, .ref s3, .ref s4, .int (nI cnts)])), (s1, .inl (cI, 25, .inl (nA fs))), (s2, .inl (cI, 24, .inl (nA lfs))), (s3, .inl (cI, 24, .inl Cs)), (s4, .inl (cI, 24, .inl (nA pss))), (q0, .inr (3, [.int (nI se), .int (nI gf), .int (nI ak), .int (nI gn)])), (y0, .inr (5, [.int (nI th), .int (nI k), .ref y1, .ref y2, .int (nI n), .ref y3, .int (nI q), .int (nI sg), .int rp, .int lo, .int ea, .ref y4, .ref y5, .int (nI go), .int (nI ak9), .int (nI gn9), .int (nI gf9)])), (y1, .inl (cI, 9, .inl K)), (y2, .inl (cI, 9, .inl (nA Lm))), (y3, .inl (cI, 24, .inl (nA t))), (y4, .inl (cI, 25, .inl (nA f9))), (y5, .inl (cI, 24, .inl C9)), (o, .inl (cL, 1, .inr (.inl fo)))] H := hP
  have hK := hKL.sub (tys' := [(cI, .int)]) [0] rfl
  have hT := zT.kept hT0 (fun a h1 h2 => hS.2.1 a h1 h2)
  have hL := cr_L hCR
  have hLk := cr_Lm hCR
  have hKk := cr_K hCR
  have hsg : sg ≤ 60000 := by omega
  have hst : ∀ g, g < cnt → ps g < n := fun g hg => by rw [(hPC.2.1 g hg).1]; exact (hPC.2.1 g hg).2
  have hcnt : cnt ≤ 24 := Nat.le_trans hPC.2.2.2 hn
  have hps : ∀ j, j < cnt → ps j < 24 := fun j hj => Nat.lt_of_lt_of_le (hst j hj) hn
  have hc0 : cells ≤ room_1.cells := Nat.le_trans (Nat.le_succ _) hcc
  have hs0 : slots ≤ room_1.slots := Nat.le_trans (Nat.le_add_right _ _) hss
  have hs6 : slots + 6 ≤ room_1.slots := Nat.le_trans (Nat.add_le_add_left (by decide) _) hss
  have hg9 := cr_g ht hCR hKD hPC
  refine lv_aload_n hx hb dL_law_584 rfl (lv_at hl 1 rfl) ?_
  refine lv_aload_n hx hb dL_law_585 rfl (lv_at hl 0 rfl) ?_
  refine lv_iload hx hb dL_law_586 (lv_at hl 4 rfl) ?_
  refine lv_iconst (v := nI 1) hx hb dL_law_588 ci_1 ?_
  refine z_iadd hx hb dL_law_589 ?_
  refine z_sld hx hb hX hbl hbA hS (by omega) (by omega) dL_law_590 ?_
  refine lv_aload_n hx hb dL_law_591 rfl (lv_at hl 3 rfl) ?_
  refine z_lxS (As := [.ref h0, .int (xs (i + 1)), .ref o]) (rest := []) ⟨hx, hb, hml, hown, hts⟩ (c_L_codeOf l D cI cL o fo h0 b0 m0 p0 s0 q0 q sg rp lo ea p1 p2 p3 p4 f lf C ps cnt (xs (i + 1)) (by first | assumption | omega) (by first | assumption | omega) hlt) (vx_cwSW 3 hts gL_law_L_codeOf rfl rfl rfl hd_L_codeOf ⟨Nat.le_of_ble_eq_true rfl, Nat.le_of_ble_eq_true rfl⟩) ⟨hKL, hE⟩ hP hD rfl hS hT [0, 6, 7, 8, 9, 10, 23] (by decide) rfl (fun u => by rcases u with _ | u <;> rfl) rfl hl.1 rfl (Nat.le_of_ble_eq_true rfl) dL_law_592 hcc hs6 (fun v9 u9 H locs hp hP hS hk9 => ?_)
  rcases u9 with _ | ⟨u9, r9⟩
  · obtain ⟨E9, ⟨rfl, hcond⟩, rfl⟩ := hp
    have hP : va_P D vwCl [(h0, .inr (4, [.ref b0, .ref m0, .ref p0, .ref s0, .ref q0, .int (nI q), .int (nI sg), .int rp, .int lo, .int ea])), (b0, .inr (0, [.ref b1, .ref b2, .int (nI k)])), (b1, .inl (cI, 32, .inl T)), (b2, .inl (cI, 8, .inl (nA Lf))), (m0, .inr (1, [.ref m1, .int (nI n)])), (m1, .inl (cI, 24, .inl (nA t))), (p0, .inr (2, [.ref p1, .ref p2, .ref p3, .ref p4, .int (nI cnt)])), (p1, .inl (cI, 25, .inl (nA f))), (p2, .inl (cI, 24, .inl (nA lf))), (p3, .inl (cI, 24, .inl C)), (p4, .inl (cI, 24, .inl (nA ps))), (s0, .inr (2, [.ref s1, .ref s2, .ref s3, .ref s4, .int (nI cnts)])), (s1, .inl (cI, 25, .inl (nA fs))), (s2, .inl (cI, 24, .inl (nA lfs))), (s3, .inl (cI, 24, .inl Cs)), (s4, .inl (cI, 24, .inl (nA pss))), (q0, .inr (3, [.int (nI se), .int (nI gf), .int (nI ak), .int (nI gn)])), (y0, .inr (5, [.int (nI th), .int (nI k), .ref y1, .ref y2, .int (nI n), .ref y3, .int (nI q), .int (nI sg), .int rp, .int lo, .int ea, .ref y4, .ref y5, .int (nI go), .int (nI ak9), .int (nI gn9), .int (nI gf9)])), (y1, .inl (cI, 9, .inl K)), (y2, .inl (cI, 9, .inl (nA Lm))), (y3, .inl (cI, 24, .inl (nA t))), (y4, .inl (cI, 25, .inl (nA f9))), (y5, .inl (cI, 24, .inl C9)), (o, .inl (cL, 1, .inr (.inl fo)))] H := hP
    refine W.eq (g2 := F0 mi 595 ls [.int (nI 1)]) rfl ?_
    refine lv_istore (lv' := [(5, .int (nI 1)), (0, .ref b), (1, .ref h0), (2, .ref y0), (3, .ref o), (4, .int (nI i))]) hx hb dL_law_595 hl (by decide) rfl (fun ls hl => ?_)
    refine lv_aload_n hx hb dL_law_597 rfl (lv_at hl 3 rfl) ?_
    refine lv_aload_n hx hb dL_law_598 rfl (lv_at hl 1 rfl) ?_
    refine lv_iload hx hb dL_law_599 (lv_at hl 5 rfl) ?_
    refine lv_iconst (v := nI 1) hx hb dL_law_601 ci_1 ?_
    refine z_iadd hx hb dL_law_602 ?_
    refine z_sld hx hb hX hbl hbA hS (by omega) (by omega) dL_law_603 ?_
    refine z_muV (As := [.int (xs (i + 1))]) (rest := []) ⟨hx, hb, hml, hown, hts⟩ (c_X5_codeOf l D cI y0 y1 y2 y3 y4 y5 th k n q sg rp lo ea go ak9 gn9 gf9 K Lm t f9 C9 (xs (i + 1)) (by first | assumption | omega) (by first | assumption | omega) (by first | assumption | omega) (by first | assumption | omega)) (cwV 1 hts gL_law_X5_codeOf rfl rfl rfl hd_X5_codeOf ⟨Nat.le_of_ble_eq_true rfl, Nat.le_of_ble_eq_true rfl⟩) ⟨hK, hE⟩ hP hD rfl hS [17, 18, 19, 20, 21, 22] (by decide) rfl (fun _ => rfl) (va_recv hK hP (ci := 5) (q0 := 17) rfl rfl) rfl hl.1 rfl (Nat.le_of_ble_eq_true rfl) dL_law_604 hcc hs6 (fun v9 u9 H locs hp hP hS => ?_)
    obtain ⟨th2_604, r_604, f2_604, C2_604⟩ := u9
    obtain ⟨rfl, hd_604⟩ := hp
    try dsimp only at hd_604
    have hP : va_P D vwCl [(h0, .inr (4, [.ref b0, .ref m0, .ref p0, .ref s0, .ref q0, .int (nI q), .int (nI sg), .int rp, .int lo, .int ea])), (b0, .inr (0, [.ref b1, .ref b2, .int (nI k)])), (b1, .inl (cI, 32, .inl T)), (b2, .inl (cI, 8, .inl (nA Lf))), (m0, .inr (1, [.ref m1, .int (nI n)])), (m1, .inl (cI, 24, .inl (nA t))), (p0, .inr (2, [.ref p1, .ref p2, .ref p3, .ref p4, .int (nI cnt)])), (p1, .inl (cI, 25, .inl (nA f))), (p2, .inl (cI, 24, .inl (nA lf))), (p3, .inl (cI, 24, .inl C)), (p4, .inl (cI, 24, .inl (nA ps))), (s0, .inr (2, [.ref s1, .ref s2, .ref s3, .ref s4, .int (nI cnts)])), (s1, .inl (cI, 25, .inl (nA fs))), (s2, .inl (cI, 24, .inl (nA lfs))), (s3, .inl (cI, 24, .inl Cs)), (s4, .inl (cI, 24, .inl (nA pss))), (q0, .inr (3, [.int (nI se), .int (nI gf), .int (nI ak), .int (nI gn)])), (y0, .inr (5, [.int (nI th2_604), .int (nI k), .ref y1, .ref y2, .int (nI n), .ref y3, .int (nI q), .int (nI sg), .int rp, .int lo, .int ea, .ref y4, .ref y5, .int (nI go), .int (nI ak9), .int (nI gn9), .int (nI gf9)])), (y1, .inl (cI, 9, .inl K)), (y2, .inl (cI, 9, .inl (nA Lm))), (y3, .inl (cI, 24, .inl (nA t))), (y4, .inl (cI, 25, .inl (nA f2_604))), (y5, .inl (cI, 24, .inl C2_604)), (o, .inl (cL, 1, .inr (.inl fo)))] H := hP
    refine W.eq (g2 := F0 mi 607 ls [.int r_604]) rfl ?_
    rw [← hg9] at hd_604
    obtain ⟨z1, z2⟩ := fnd_no (val := fun j => xM t n K Lm k j) hcond hd_604
    replace z1 := z1.symm
    subst z1
    replace z2 := z2.symm
    subst z2
    have hP : va_P D vwCl [(h0, .inr (4, [.ref b0, .ref m0, .ref p0, .ref s0, .ref q0, .int (nI q), .int (nI sg), .int rp, .int lo, .int ea])), (b0, .inr (0, [.ref b1, .ref b2, .int (nI k)])), (b1, .inl (cI, 32, .inl T)), (b2, .inl (cI, 8, .inl (nA Lf))), (m0, .inr (1, [.ref m1, .int (nI n)])), (m1, .inl (cI, 24, .inl (nA t))), (p0, .inr (2, [.ref p1, .ref p2, .ref p3, .ref p4, .int (nI cnt)])), (p1, .inl (cI, 25, .inl (nA f))), (p2, .inl (cI, 24, .inl (nA lf))), (p3, .inl (cI, 24, .inl C)), (p4, .inl (cI, 24, .inl (nA ps))), (s0, .inr (2, [.ref s1, .ref s2, .ref s3, .ref s4, .int (nI cnts)])), (s1, .inl (cI, 25, .inl (nA fs))), (s2, .inl (cI, 24, .inl (nA lfs))), (s3, .inl (cI, 24, .inl Cs)), (s4, .inl (cI, 24, .inl (nA pss))), (q0, .inr (3, [.int (nI se), .int (nI gf), .int (nI ak), .int (nI gn)])), (y0, .inr (5, [.int (nI 1), .int (nI k), .ref y1, .ref y2, .int (nI n), .ref y3, .int (nI q), .int (nI sg), .int rp, .int lo, .int ea, .ref y4, .ref y5, .int (nI go), .int (nI ak9), .int (nI gn9), .int (nI gf9)])), (y1, .inl (cI, 9, .inl K)), (y2, .inl (cI, 9, .inl (nA Lm))), (y3, .inl (cI, 24, .inl (nA t))), (y4, .inl (cI, 25, .inl (nA f2_604))), (y5, .inl (cI, 24, .inl C2_604)), (o, .inl (cL, 1, .inr (.inl fo)))] H := hP
    refine lv_istore (lv' := [(6, .int (nI 0)), (5, .int (nI 1)), (0, .ref b), (1, .ref h0), (2, .ref y0), (3, .ref o), (4, .int (nI i))]) hx hb dL_law_607 hl (by decide) rfl (fun ls hl => ?_)
    refine lv_aload_n hx hb dL_law_609 rfl (lv_at hl 4 rfl) ?_
    refine z_roV (As := []) (rest := []) ⟨hx, hb, hml, hown, hts⟩ (c_X5_thrown l D cI y0 y1 y2 y3 y4 y5 1 k n q sg rp lo ea go ak9 gn9 gf9) (cwV 0 hts gL_law_X5_thrown rfl rfl rfl hd_X5_thrown ⟨Nat.le_of_ble_eq_true rfl, Nat.le_of_ble_eq_true rfl⟩) ⟨hK, hE⟩ (hP.sub (ws' := [(y0, .inr (5, [.int (nI 1), .int (nI k), .ref y1, .ref y2, .int (nI n), .ref y3, .int (nI q), .int (nI sg), .int rp, .int lo, .int ea, .ref y4, .ref y5, .int (nI go), .int (nI ak9), .int (nI gn9), .int (nI gf9)]))]) [17] rfl) (va_recv hK hP (ci := 5) (q0 := 17) rfl rfl) rfl hl.1 rfl (Nat.le_of_ble_eq_true rfl) dL_law_610 hcc hs6 ?_
    refine lv_iload hx hb dL_law_613 (lv_at hl 1 rfl) ?_
    refine z_icmp_eq (tgt := 620) hx hb dL_law_615 (by decide) (by omega) (by omega) (fun c_615 => ?_) (fun c_615 => ?_)
    · refine lv_iload hx hb dL_law_620 (lv_at hl 1 rfl) ?_
      refine z_if_ne (tgt := 637) hx hb dL_law_622 (by decide) (by omega) (fun c_622 => ?_) (fun c_622 => ?_)
      · refine lv_goto (tgt := 1119) hx hb dL_law_637 (by decide) ?_
        refine W.widen (k := cells + 1) (n := slots + 18) (by omega) (by omega) ?_
        exact kk H locs ls ⟨q, sg, rp, lo, ea, T, Lf, k, t, n, f, lf, C, ps, cnt, fs, lfs, Cs, pss, cnts, se, gf, ak, gn, 1, K, Lm, f2_604, C2_604, go, ak9, gn9, gf9, fo, hP, (by omega), (by omega), ht, hq, (by omega), hPC, hCR, hKD⟩ hS (lv_sub hl [2, 3, 4, 5, 6] rfl)
      · exact absurd c_622 (by decide)
    · exact absurd c_615 (by decide)
  · obtain ⟨j_592, rfl⟩ : ∃ z, z = u9 := ⟨_, rfl⟩
    obtain ⟨rfl, hr9, hj_592⟩ := hp
    try dsimp only at hr9
    have hr8 := (Value.int.inj (Option.some.inj hr9)).symm
    subst hr8
    try dsimp only at hj_592
    have hP : va_P D vwCl [(h0, .inr (4, [.ref b0, .ref m0, .ref p0, .ref s0, .ref q0, .int (nI q), .int (nI sg), .int rp, .int lo, .int ea])), (b0, .inr (0, [.ref b1, .ref b2, .int (nI k)])), (b1, .inl (cI, 32, .inl T)), (b2, .inl (cI, 8, .inl (nA Lf))), (m0, .inr (1, [.ref m1, .int (nI n)])), (m1, .inl (cI, 24, .inl (nA t))), (p0, .inr (2, [.ref p1, .ref p2, .ref p3, .ref p4, .int (nI cnt)])), (p1, .inl (cI, 25, .inl (nA f))), (p2, .inl (cI, 24, .inl (nA lf))), (p3, .inl (cI, 24, .inl C)), (p4, .inl (cI, 24, .inl (nA ps))), (s0, .inr (2, [.ref s1, .ref s2, .ref s3, .ref s4, .int (nI cnts)])), (s1, .inl (cI, 25, .inl (nA fs))), (s2, .inl (cI, 24, .inl (nA lfs))), (s3, .inl (cI, 24, .inl Cs)), (s4, .inl (cI, 24, .inl (nA pss))), (q0, .inr (3, [.int (nI se), .int (nI gf), .int (nI ak), .int (nI gn)])), (y0, .inr (5, [.int (nI th), .int (nI k), .ref y1, .ref y2, .int (nI n), .ref y3, .int (nI q), .int (nI sg), .int rp, .int lo, .int ea, .ref y4, .ref y5, .int (nI go), .int (nI ak9), .int (nI gn9), .int (nI gf9)])), (y1, .inl (cI, 9, .inl K)), (y2, .inl (cI, 9, .inl (nA Lm))), (y3, .inl (cI, 24, .inl (nA t))), (y4, .inl (cI, 25, .inl (nA f9))), (y5, .inl (cI, 24, .inl C9)), (o, .inl (cL, 1, .inr (.inl (vp_updL fo 0 ((C (ps j_592)).toInt64)))))] H := hP
    refine W.eq (g2 := F0 mi 595 ls [.int (nI 0)]) rfl ?_
    refine lv_istore (lv' := [(5, .int (nI 0)), (0, .ref b), (1, .ref h0), (2, .ref y0), (3, .ref o), (4, .int (nI i))]) hx hb dL_law_595 hl (by decide) rfl (fun ls hl => ?_)
    refine lv_aload_n hx hb dL_law_597 rfl (lv_at hl 3 rfl) ?_
    refine lv_aload_n hx hb dL_law_598 rfl (lv_at hl 1 rfl) ?_
    refine lv_iload hx hb dL_law_599 (lv_at hl 5 rfl) ?_
    refine lv_iconst (v := nI 1) hx hb dL_law_601 ci_1 ?_
    refine z_iadd hx hb dL_law_602 ?_
    refine z_sld hx hb hX hbl hbA hS (by omega) (by omega) dL_law_603 ?_
    refine z_muV (As := [.int (xs (i + 1))]) (rest := []) ⟨hx, hb, hml, hown, hts⟩ (c_X5_codeOf l D cI y0 y1 y2 y3 y4 y5 th k n q sg rp lo ea go ak9 gn9 gf9 K Lm t f9 C9 (xs (i + 1)) (by first | assumption | omega) (by first | assumption | omega) (by first | assumption | omega) (by first | assumption | omega)) (cwV 1 hts gL_law_X5_codeOf rfl rfl rfl hd_X5_codeOf ⟨Nat.le_of_ble_eq_true rfl, Nat.le_of_ble_eq_true rfl⟩) ⟨hK, hE⟩ hP hD rfl hS [17, 18, 19, 20, 21, 22] (by decide) rfl (fun _ => rfl) (va_recv hK hP (ci := 5) (q0 := 17) rfl rfl) rfl hl.1 rfl (Nat.le_of_ble_eq_true rfl) dL_law_604 hcc hs6 (fun v9 u9 H locs hp hP hS => ?_)
    obtain ⟨th2_604, r_604, f2_604, C2_604⟩ := u9
    obtain ⟨rfl, hd_604⟩ := hp
    try dsimp only at hd_604
    have hP : va_P D vwCl [(h0, .inr (4, [.ref b0, .ref m0, .ref p0, .ref s0, .ref q0, .int (nI q), .int (nI sg), .int rp, .int lo, .int ea])), (b0, .inr (0, [.ref b1, .ref b2, .int (nI k)])), (b1, .inl (cI, 32, .inl T)), (b2, .inl (cI, 8, .inl (nA Lf))), (m0, .inr (1, [.ref m1, .int (nI n)])), (m1, .inl (cI, 24, .inl (nA t))), (p0, .inr (2, [.ref p1, .ref p2, .ref p3, .ref p4, .int (nI cnt)])), (p1, .inl (cI, 25, .inl (nA f))), (p2, .inl (cI, 24, .inl (nA lf))), (p3, .inl (cI, 24, .inl C)), (p4, .inl (cI, 24, .inl (nA ps))), (s0, .inr (2, [.ref s1, .ref s2, .ref s3, .ref s4, .int (nI cnts)])), (s1, .inl (cI, 25, .inl (nA fs))), (s2, .inl (cI, 24, .inl (nA lfs))), (s3, .inl (cI, 24, .inl Cs)), (s4, .inl (cI, 24, .inl (nA pss))), (q0, .inr (3, [.int (nI se), .int (nI gf), .int (nI ak), .int (nI gn)])), (y0, .inr (5, [.int (nI th2_604), .int (nI k), .ref y1, .ref y2, .int (nI n), .ref y3, .int (nI q), .int (nI sg), .int rp, .int lo, .int ea, .ref y4, .ref y5, .int (nI go), .int (nI ak9), .int (nI gn9), .int (nI gf9)])), (y1, .inl (cI, 9, .inl K)), (y2, .inl (cI, 9, .inl (nA Lm))), (y3, .inl (cI, 24, .inl (nA t))), (y4, .inl (cI, 25, .inl (nA f2_604))), (y5, .inl (cI, 24, .inl C2_604)), (o, .inl (cL, 1, .inr (.inl (vp_updL fo 0 ((C (ps j_592)).toInt64)))))] H := hP
    refine W.eq (g2 := F0 mi 607 ls [.int r_604]) rfl ?_
    rw [← hg9] at hd_604
    obtain ⟨z1, z2⟩ := fnd_eq (val := fun j => xM t n K Lm k j) (by omega) hj_592 hd_604
    replace z1 := z1.symm
    subst z1
    replace z2 := z2.symm
    subst z2
    have hP : va_P D vwCl [(h0, .inr (4, [.ref b0, .ref m0, .ref p0, .ref s0, .ref q0, .int (nI q), .int (nI sg), .int rp, .int lo, .int ea])), (b0, .inr (0, [.ref b1, .ref b2, .int (nI k)])), (b1, .inl (cI, 32, .inl T)), (b2, .inl (cI, 8, .inl (nA Lf))), (m0, .inr (1, [.ref m1, .int (nI n)])), (m1, .inl (cI, 24, .inl (nA t))), (p0, .inr (2, [.ref p1, .ref p2, .ref p3, .ref p4, .int (nI cnt)])), (p1, .inl (cI, 25, .inl (nA f))), (p2, .inl (cI, 24, .inl (nA lf))), (p3, .inl (cI, 24, .inl C)), (p4, .inl (cI, 24, .inl (nA ps))), (s0, .inr (2, [.ref s1, .ref s2, .ref s3, .ref s4, .int (nI cnts)])), (s1, .inl (cI, 25, .inl (nA fs))), (s2, .inl (cI, 24, .inl (nA lfs))), (s3, .inl (cI, 24, .inl Cs)), (s4, .inl (cI, 24, .inl (nA pss))), (q0, .inr (3, [.int (nI se), .int (nI gf), .int (nI ak), .int (nI gn)])), (y0, .inr (5, [.int (nI 0), .int (nI k), .ref y1, .ref y2, .int (nI n), .ref y3, .int (nI q), .int (nI sg), .int rp, .int lo, .int ea, .ref y4, .ref y5, .int (nI go), .int (nI ak9), .int (nI gn9), .int (nI gf9)])), (y1, .inl (cI, 9, .inl K)), (y2, .inl (cI, 9, .inl (nA Lm))), (y3, .inl (cI, 24, .inl (nA t))), (y4, .inl (cI, 25, .inl (nA f2_604))), (y5, .inl (cI, 24, .inl C2_604)), (o, .inl (cL, 1, .inr (.inl (vp_updL fo 0 ((C (ps j_592)).toInt64)))))] H := hP
    refine lv_istore (lv' := [(6, .int (xM t n K Lm k j_592)), (5, .int (nI 0)), (0, .ref b), (1, .ref h0), (2, .ref y0), (3, .ref o), (4, .int (nI i))]) hx hb dL_law_607 hl (by decide) rfl (fun ls hl => ?_)
    refine lv_aload_n hx hb dL_law_609 rfl (lv_at hl 4 rfl) ?_
    refine z_roV (As := []) (rest := []) ⟨hx, hb, hml, hown, hts⟩ (c_X5_thrown l D cI y0 y1 y2 y3 y4 y5 0 k n q sg rp lo ea go ak9 gn9 gf9) (cwV 0 hts gL_law_X5_thrown rfl rfl rfl hd_X5_thrown ⟨Nat.le_of_ble_eq_true rfl, Nat.le_of_ble_eq_true rfl⟩) ⟨hK, hE⟩ (hP.sub (ws' := [(y0, .inr (5, [.int (nI 0), .int (nI k), .ref y1, .ref y2, .int (nI n), .ref y3, .int (nI q), .int (nI sg), .int rp, .int lo, .int ea, .ref y4, .ref y5, .int (nI go), .int (nI ak9), .int (nI gn9), .int (nI gf9)]))]) [17] rfl) (va_recv hK hP (ci := 5) (q0 := 17) rfl rfl) rfl hl.1 rfl (Nat.le_of_ble_eq_true rfl) dL_law_610 hcc hs6 ?_
    refine lv_iload hx hb dL_law_613 (lv_at hl 1 rfl) ?_
    refine z_icmp_eq (tgt := 620) hx hb dL_law_615 (by decide) (by omega) (by omega) (fun c_615 => ?_) (fun c_615 => ?_)
    · refine lv_iload hx hb dL_law_620 (lv_at hl 1 rfl) ?_
      refine z_if_ne (tgt := 637) hx hb dL_law_622 (by decide) (by omega) (fun c_622 => ?_) (fun c_622 => ?_)
      · exact absurd c_622 (by decide)
      · refine lv_aload_n hx hb dL_law_625 rfl (lv_at hl 5 rfl) ?_
        refine lv_iconst (v := nI 0) hx hb dL_law_626 ci_0 ?_
        refine z_lald0 hx hb hKL hP 23 rfl dL_law_627 ?_
        refine lv_iload hx hb dL_law_628 (lv_at hl 0 rfl) ?_
        refine lv_i2l hx hb dL_law_630 rfl ?_
        refine z_lcmpS hx hb (vp0.trans (congrArg Int32.toInt64 ((cr_p ht hCR hKD hPC hj_592.1).2))) dL_law_631 ?_
        refine z_if_eq (tgt := 637) hx hb dL_law_632 (by decide) (by omega) (fun c_632 => ?_) (fun c_632 => ?_)
        · refine lv_goto (tgt := 1119) hx hb dL_law_637 (by decide) ?_
          refine W.widen (k := cells + 1) (n := slots + 18) (by omega) (by omega) ?_
          exact kk H locs ls ⟨q, sg, rp, lo, ea, T, Lf, k, t, n, f, lf, C, ps, cnt, fs, lfs, Cs, pss, cnts, se, gf, ak, gn, 0, K, Lm, f2_604, C2_604, go, ak9, gn9, gf9, (vp_updL fo 0 ((C (ps j_592)).toInt64)), hP, (by omega), (by omega), ht, hq, (by omega), hPC, hCR, hKD⟩ hS (lv_sub hl [2, 3, 4, 5, 6] rfl)
        · exact absurd c_632 (by decide)
    · exact absurd c_615 (by decide)
set_option maxHeartbeats 4000000 in
set_option maxRecDepth 100000 in
theorem arm_startOf {pg : Program} {l : Launch} {ev : Env} {sv : State} {mi : MethodId} {ag : Array Value} {bl : List Frame} {mt : Method} {cd : Code} {H : Heap} {locs : List Loc} {cells slots : Nat} {Q : State → Prop} {ls : Array Slot} {D : va_G} {cI cL : ClassId} {A : Nat → Prop} {H0 : Heap} {b L : Nat} {xs : Nat → Int32} {h0 b0 b1 b2 m0 m1 p0 p1 p2 p3 p4 s0 s1 s2 s3 s4 q0 y0 y1 y2 y3 y4 y5 o sgB i : Nat} (hCx : LCx pg l sv mi ag cd D cI cL A H0 b L xs [h0, b0, b1, b2, m0, m1, p0, p1, p2, p3, p4, s0, s1, s2, s3, s4, q0, y0, y1, y2, y3, y4, y5, o]) (hI : LInv D cI cL h0 b0 b1 b2 m0 m1 p0 p1 p2 p3 p4 s0 s1 s2 s3 s4 q0 y0 y1 y2 y3 y4 y5 o sgB H) (hS : va_S A H0 H locs) (hl : lv_has ls 9 [(0, .ref b), (1, .ref h0), (2, .ref y0), (3, .ref o), (4, .int (nI i))]) (hi : i + 5 ≤ L) (hsB : sgB ≤ 59000) (hcc : cells + 1 ≤ 601024) (hss : slots + 18 ≤ 7293034)
    (kk : ∀ (H1 : Heap) (locs1 : List Loc) (ls1 : Array Slot), LInv D cI cL h0 b0 b1 b2 m0 m1 p0 p1 p2 p3 p4 s0 s1 s2 s3 s4 q0 y0 y1 y2 y3 y4 y5 o (sgB + 96) H1 → va_S A H0 H1 locs1 → lv_has ls1 9 [(0, .ref b), (1, .ref h0), (2, .ref y0), (3, .ref o), (4, .int (nI i))] → W pg l ev room_1 sv mi ag bl mt cd H1 locs1 (cells + 1) (slots + 18) Q (F0 mi 1119 ls1 [])) : W pg l ev room_1 sv mi ag bl mt cd H locs cells slots Q (F0 mi 640 ls []) := by
  obtain ⟨hx, hb, hml, hts, hown, hKL, hE, hlt, hX, hbl, hbA, hT0, hL9, hD, hA⟩ := hCx
  obtain ⟨q, sg, rp, lo, ea, T, Lf, k, t, n, f, lf, C, ps, cnt, fs, lfs, Cs, pss, cnts, se, gf, ak, gn, th, K, Lm, f9, C9, go, ak9, gn9, gf9, fo, hP, hk, hn, ht, hq, hsg0, hPC, hCR, hKD⟩ := hI
  have hP : va_P D vwCl [(h0, .inr (4, [.ref b0, .ref m0, .ref p0, .ref s0, .ref q0, .int (nI q), .int (nI sg), .int rp, .int lo, .int ea])), (b0, .inr (0, [.ref b1, .ref b2, .int (nI k)])), (b1, .inl (cI, 32, .inl T)), (b2, .inl (cI, 8, .inl (nA Lf))), (m0, .inr (1, [.ref m1, .int (nI n)])), (m1, .inl (cI, 24, .inl (nA t))), (p0, .inr (2, [.ref p1, .ref p2, .ref p3, .ref p4, .int (nI cnt)])), (p1, .inl (cI, 25, .inl (nA f))), (p2, .inl (cI, 24, .inl (nA lf))), (p3, .inl (cI, 24, .inl C)), (p4, .inl (cI, 24, .inl (nA ps))), (s0, .inr (2, [.ref s1, .ref s2, .ref s3, .ref s4, .int (nI cnts)])), (s1, .inl (cI, 25, .inl (nA fs))), (s2, .inl (cI, 24, .inl (nA lfs))), (s3, .inl (cI, 24, .inl Cs)), (s4, .inl (cI, 24, .inl (nA pss))), (q0, .inr (3, [.int (nI se), .int (nI gf), .int (nI ak), .int (nI gn)])), (y0, .inr (5, [.int (nI th), .int (nI k), .ref y1, .ref y2, .int (nI n), .ref y3, .int (nI q), .int (nI sg), .int rp, .int lo, .int ea, .ref y4, .ref y5, .int (nI go), .int (nI ak9), .int (nI gn9), .int (nI gf9)])), (y1, .inl (cI, 9, .inl K)), (y2, .inl (cI, 9, .inl (nA Lm))), (y3, .inl (cI, 24, .inl (nA t))), (y4, .inl (cI, 25, .inl (nA f9))), (y5, .inl (cI, 24, .inl C9)), (o, .inl (cL, 1, .inr (.inl fo)))] H := hP
  have hK := hKL.sub (tys' := [(cI, .int)]) [0] rfl
  have hT := zT.kept hT0 (fun a h1 h2 => hS.2.1 a h1 h2)
  have hL := cr_L hCR
  have hLk := cr_Lm hCR
  have hKk := cr_K hCR
  have hsg : sg ≤ 60000 := by omega
  have hst : ∀ g, g < cnt → ps g < n := fun g hg => by rw [(hPC.2.1 g hg).1]; exact (hPC.2.1 g hg).2
  have hcnt : cnt ≤ 24 := Nat.le_trans hPC.2.2.2 hn
  have hps : ∀ j, j < cnt → ps j < 24 := fun j hj => Nat.lt_of_lt_of_le (hst j hj) hn
  have hc0 : cells ≤ room_1.cells := Nat.le_trans (Nat.le_succ _) hcc
  have hs0 : slots ≤ room_1.slots := Nat.le_trans (Nat.le_add_right _ _) hss
  have hs6 : slots + 6 ≤ room_1.slots := Nat.le_trans (Nat.add_le_add_left (by decide) _) hss
  have hg9 := cr_g ht hCR hKD hPC
  refine lv_aload_n hx hb dL_law_640 rfl (lv_at hl 1 rfl) ?_
  refine lv_aload_n hx hb dL_law_641 rfl (lv_at hl 0 rfl) ?_
  refine lv_iload hx hb dL_law_642 (lv_at hl 4 rfl) ?_
  refine lv_iconst (v := nI 1) hx hb dL_law_644 ci_1 ?_
  refine z_iadd hx hb dL_law_645 ?_
  refine z_sld hx hb hX hbl hbA hS (by omega) (by omega) dL_law_646 ?_
  refine lv_aload_n hx hb dL_law_647 rfl (lv_at hl 3 rfl) ?_
  refine z_lxS (As := [.ref h0, .int (xs (i + 1)), .ref o]) (rest := []) ⟨hx, hb, hml, hown, hts⟩ (c_L_startOf l D cI cL o fo h0 b0 m0 p0 s0 q0 q sg rp lo ea p1 p2 p3 p4 f lf C ps cnt (xs (i + 1)) (by first | assumption | omega) hlt) (vx_cwSW 3 hts gL_law_L_startOf rfl rfl rfl hd_L_startOf ⟨Nat.le_of_ble_eq_true rfl, Nat.le_of_ble_eq_true rfl⟩) ⟨hKL, hE⟩ hP hD rfl hS hT [0, 6, 7, 8, 9, 10, 23] (by decide) rfl (fun u => by rcases u with _ | u <;> rfl) rfl hl.1 rfl (Nat.le_of_ble_eq_true rfl) dL_law_648 hcc hs6 (fun v9 u9 H locs hp hP hS hk9 => ?_)
  rcases u9 with _ | ⟨u9, r9⟩
  · obtain ⟨E9, ⟨rfl, hcond⟩, rfl⟩ := hp
    have hP : va_P D vwCl [(h0, .inr (4, [.ref b0, .ref m0, .ref p0, .ref s0, .ref q0, .int (nI q), .int (nI sg), .int rp, .int lo, .int ea])), (b0, .inr (0, [.ref b1, .ref b2, .int (nI k)])), (b1, .inl (cI, 32, .inl T)), (b2, .inl (cI, 8, .inl (nA Lf))), (m0, .inr (1, [.ref m1, .int (nI n)])), (m1, .inl (cI, 24, .inl (nA t))), (p0, .inr (2, [.ref p1, .ref p2, .ref p3, .ref p4, .int (nI cnt)])), (p1, .inl (cI, 25, .inl (nA f))), (p2, .inl (cI, 24, .inl (nA lf))), (p3, .inl (cI, 24, .inl C)), (p4, .inl (cI, 24, .inl (nA ps))), (s0, .inr (2, [.ref s1, .ref s2, .ref s3, .ref s4, .int (nI cnts)])), (s1, .inl (cI, 25, .inl (nA fs))), (s2, .inl (cI, 24, .inl (nA lfs))), (s3, .inl (cI, 24, .inl Cs)), (s4, .inl (cI, 24, .inl (nA pss))), (q0, .inr (3, [.int (nI se), .int (nI gf), .int (nI ak), .int (nI gn)])), (y0, .inr (5, [.int (nI th), .int (nI k), .ref y1, .ref y2, .int (nI n), .ref y3, .int (nI q), .int (nI sg), .int rp, .int lo, .int ea, .ref y4, .ref y5, .int (nI go), .int (nI ak9), .int (nI gn9), .int (nI gf9)])), (y1, .inl (cI, 9, .inl K)), (y2, .inl (cI, 9, .inl (nA Lm))), (y3, .inl (cI, 24, .inl (nA t))), (y4, .inl (cI, 25, .inl (nA f9))), (y5, .inl (cI, 24, .inl C9)), (o, .inl (cL, 1, .inr (.inl fo)))] H := hP
    refine W.eq (g2 := F0 mi 651 ls [.int (nI 1)]) rfl ?_
    refine lv_istore (lv' := [(5, .int (nI 1)), (0, .ref b), (1, .ref h0), (2, .ref y0), (3, .ref o), (4, .int (nI i))]) hx hb dL_law_651 hl (by decide) rfl (fun ls hl => ?_)
    refine lv_aload_n hx hb dL_law_653 rfl (lv_at hl 3 rfl) ?_
    refine lv_aload_n hx hb dL_law_654 rfl (lv_at hl 1 rfl) ?_
    refine lv_iload hx hb dL_law_655 (lv_at hl 5 rfl) ?_
    refine lv_iconst (v := nI 1) hx hb dL_law_657 ci_1 ?_
    refine z_iadd hx hb dL_law_658 ?_
    refine z_sld hx hb hX hbl hbA hS (by omega) (by omega) dL_law_659 ?_
    refine z_muV (As := [.int (xs (i + 1))]) (rest := []) ⟨hx, hb, hml, hown, hts⟩ (c_X5_startOf l D cI y0 y1 y2 y3 y4 y5 th k n q sg rp lo ea go ak9 gn9 gf9 K Lm t f9 C9 (xs (i + 1)) (by first | assumption | omega) (by first | assumption | omega) (by first | assumption | omega) (by first | assumption | omega)) (cwV 1 hts gL_law_X5_startOf rfl rfl rfl hd_X5_startOf ⟨Nat.le_of_ble_eq_true rfl, Nat.le_of_ble_eq_true rfl⟩) ⟨hK, hE⟩ hP hD rfl hS [17, 18, 19, 20, 21, 22] (by decide) rfl (fun _ => rfl) (va_recv hK hP (ci := 5) (q0 := 17) rfl rfl) rfl hl.1 rfl (Nat.le_of_ble_eq_true rfl) dL_law_660 hcc hs6 (fun v9 u9 H locs hp hP hS => ?_)
    obtain ⟨th2_660, r_660, f2_660, C2_660⟩ := u9
    obtain ⟨rfl, hd_660⟩ := hp
    try dsimp only at hd_660
    have hP : va_P D vwCl [(h0, .inr (4, [.ref b0, .ref m0, .ref p0, .ref s0, .ref q0, .int (nI q), .int (nI sg), .int rp, .int lo, .int ea])), (b0, .inr (0, [.ref b1, .ref b2, .int (nI k)])), (b1, .inl (cI, 32, .inl T)), (b2, .inl (cI, 8, .inl (nA Lf))), (m0, .inr (1, [.ref m1, .int (nI n)])), (m1, .inl (cI, 24, .inl (nA t))), (p0, .inr (2, [.ref p1, .ref p2, .ref p3, .ref p4, .int (nI cnt)])), (p1, .inl (cI, 25, .inl (nA f))), (p2, .inl (cI, 24, .inl (nA lf))), (p3, .inl (cI, 24, .inl C)), (p4, .inl (cI, 24, .inl (nA ps))), (s0, .inr (2, [.ref s1, .ref s2, .ref s3, .ref s4, .int (nI cnts)])), (s1, .inl (cI, 25, .inl (nA fs))), (s2, .inl (cI, 24, .inl (nA lfs))), (s3, .inl (cI, 24, .inl Cs)), (s4, .inl (cI, 24, .inl (nA pss))), (q0, .inr (3, [.int (nI se), .int (nI gf), .int (nI ak), .int (nI gn)])), (y0, .inr (5, [.int (nI th2_660), .int (nI k), .ref y1, .ref y2, .int (nI n), .ref y3, .int (nI q), .int (nI sg), .int rp, .int lo, .int ea, .ref y4, .ref y5, .int (nI go), .int (nI ak9), .int (nI gn9), .int (nI gf9)])), (y1, .inl (cI, 9, .inl K)), (y2, .inl (cI, 9, .inl (nA Lm))), (y3, .inl (cI, 24, .inl (nA t))), (y4, .inl (cI, 25, .inl (nA f2_660))), (y5, .inl (cI, 24, .inl C2_660)), (o, .inl (cL, 1, .inr (.inl fo)))] H := hP
    refine W.eq (g2 := F0 mi 663 ls [.int r_660]) rfl ?_
    rw [← hg9] at hd_660
    obtain ⟨z1, z2⟩ := fnd_no (val := fun j => nI (pM t n K Lm k j)) hcond hd_660
    replace z1 := z1.symm
    subst z1
    replace z2 := z2.symm
    subst z2
    have hP : va_P D vwCl [(h0, .inr (4, [.ref b0, .ref m0, .ref p0, .ref s0, .ref q0, .int (nI q), .int (nI sg), .int rp, .int lo, .int ea])), (b0, .inr (0, [.ref b1, .ref b2, .int (nI k)])), (b1, .inl (cI, 32, .inl T)), (b2, .inl (cI, 8, .inl (nA Lf))), (m0, .inr (1, [.ref m1, .int (nI n)])), (m1, .inl (cI, 24, .inl (nA t))), (p0, .inr (2, [.ref p1, .ref p2, .ref p3, .ref p4, .int (nI cnt)])), (p1, .inl (cI, 25, .inl (nA f))), (p2, .inl (cI, 24, .inl (nA lf))), (p3, .inl (cI, 24, .inl C)), (p4, .inl (cI, 24, .inl (nA ps))), (s0, .inr (2, [.ref s1, .ref s2, .ref s3, .ref s4, .int (nI cnts)])), (s1, .inl (cI, 25, .inl (nA fs))), (s2, .inl (cI, 24, .inl (nA lfs))), (s3, .inl (cI, 24, .inl Cs)), (s4, .inl (cI, 24, .inl (nA pss))), (q0, .inr (3, [.int (nI se), .int (nI gf), .int (nI ak), .int (nI gn)])), (y0, .inr (5, [.int (nI 1), .int (nI k), .ref y1, .ref y2, .int (nI n), .ref y3, .int (nI q), .int (nI sg), .int rp, .int lo, .int ea, .ref y4, .ref y5, .int (nI go), .int (nI ak9), .int (nI gn9), .int (nI gf9)])), (y1, .inl (cI, 9, .inl K)), (y2, .inl (cI, 9, .inl (nA Lm))), (y3, .inl (cI, 24, .inl (nA t))), (y4, .inl (cI, 25, .inl (nA f2_660))), (y5, .inl (cI, 24, .inl C2_660)), (o, .inl (cL, 1, .inr (.inl fo)))] H := hP
    refine lv_istore (lv' := [(6, .int (nI 0)), (5, .int (nI 1)), (0, .ref b), (1, .ref h0), (2, .ref y0), (3, .ref o), (4, .int (nI i))]) hx hb dL_law_663 hl (by decide) rfl (fun ls hl => ?_)
    refine lv_aload_n hx hb dL_law_665 rfl (lv_at hl 4 rfl) ?_
    refine z_roV (As := []) (rest := []) ⟨hx, hb, hml, hown, hts⟩ (c_X5_thrown l D cI y0 y1 y2 y3 y4 y5 1 k n q sg rp lo ea go ak9 gn9 gf9) (cwV 0 hts gL_law_X5_thrown rfl rfl rfl hd_X5_thrown ⟨Nat.le_of_ble_eq_true rfl, Nat.le_of_ble_eq_true rfl⟩) ⟨hK, hE⟩ (hP.sub (ws' := [(y0, .inr (5, [.int (nI 1), .int (nI k), .ref y1, .ref y2, .int (nI n), .ref y3, .int (nI q), .int (nI sg), .int rp, .int lo, .int ea, .ref y4, .ref y5, .int (nI go), .int (nI ak9), .int (nI gn9), .int (nI gf9)]))]) [17] rfl) (va_recv hK hP (ci := 5) (q0 := 17) rfl rfl) rfl hl.1 rfl (Nat.le_of_ble_eq_true rfl) dL_law_666 hcc hs6 ?_
    refine lv_iload hx hb dL_law_669 (lv_at hl 1 rfl) ?_
    refine z_icmp_eq (tgt := 676) hx hb dL_law_671 (by decide) (by omega) (by omega) (fun c_671 => ?_) (fun c_671 => ?_)
    · refine lv_iload hx hb dL_law_676 (lv_at hl 1 rfl) ?_
      refine z_if_ne (tgt := 693) hx hb dL_law_678 (by decide) (by omega) (fun c_678 => ?_) (fun c_678 => ?_)
      · refine lv_goto (tgt := 1119) hx hb dL_law_693 (by decide) ?_
        refine W.widen (k := cells + 1) (n := slots + 18) (by omega) (by omega) ?_
        exact kk H locs ls ⟨q, sg, rp, lo, ea, T, Lf, k, t, n, f, lf, C, ps, cnt, fs, lfs, Cs, pss, cnts, se, gf, ak, gn, 1, K, Lm, f2_660, C2_660, go, ak9, gn9, gf9, fo, hP, (by omega), (by omega), ht, hq, (by omega), hPC, hCR, hKD⟩ hS (lv_sub hl [2, 3, 4, 5, 6] rfl)
      · exact absurd c_678 (by decide)
    · exact absurd c_671 (by decide)
  · obtain ⟨j_648, rfl⟩ : ∃ z, z = u9 := ⟨_, rfl⟩
    obtain ⟨rfl, hr9, hj_648⟩ := hp
    try dsimp only at hr9
    have hr8 := (Value.int.inj (Option.some.inj hr9)).symm
    subst hr8
    try dsimp only at hj_648
    have hP : va_P D vwCl [(h0, .inr (4, [.ref b0, .ref m0, .ref p0, .ref s0, .ref q0, .int (nI q), .int (nI sg), .int rp, .int lo, .int ea])), (b0, .inr (0, [.ref b1, .ref b2, .int (nI k)])), (b1, .inl (cI, 32, .inl T)), (b2, .inl (cI, 8, .inl (nA Lf))), (m0, .inr (1, [.ref m1, .int (nI n)])), (m1, .inl (cI, 24, .inl (nA t))), (p0, .inr (2, [.ref p1, .ref p2, .ref p3, .ref p4, .int (nI cnt)])), (p1, .inl (cI, 25, .inl (nA f))), (p2, .inl (cI, 24, .inl (nA lf))), (p3, .inl (cI, 24, .inl C)), (p4, .inl (cI, 24, .inl (nA ps))), (s0, .inr (2, [.ref s1, .ref s2, .ref s3, .ref s4, .int (nI cnts)])), (s1, .inl (cI, 25, .inl (nA fs))), (s2, .inl (cI, 24, .inl (nA lfs))), (s3, .inl (cI, 24, .inl Cs)), (s4, .inl (cI, 24, .inl (nA pss))), (q0, .inr (3, [.int (nI se), .int (nI gf), .int (nI ak), .int (nI gn)])), (y0, .inr (5, [.int (nI th), .int (nI k), .ref y1, .ref y2, .int (nI n), .ref y3, .int (nI q), .int (nI sg), .int rp, .int lo, .int ea, .ref y4, .ref y5, .int (nI go), .int (nI ak9), .int (nI gn9), .int (nI gf9)])), (y1, .inl (cI, 9, .inl K)), (y2, .inl (cI, 9, .inl (nA Lm))), (y3, .inl (cI, 24, .inl (nA t))), (y4, .inl (cI, 25, .inl (nA f9))), (y5, .inl (cI, 24, .inl C9)), (o, .inl (cL, 1, .inr (.inl (vp_updL fo 0 ((nI (ps j_648)).toInt64)))))] H := hP
    refine W.eq (g2 := F0 mi 651 ls [.int (nI 0)]) rfl ?_
    refine lv_istore (lv' := [(5, .int (nI 0)), (0, .ref b), (1, .ref h0), (2, .ref y0), (3, .ref o), (4, .int (nI i))]) hx hb dL_law_651 hl (by decide) rfl (fun ls hl => ?_)
    refine lv_aload_n hx hb dL_law_653 rfl (lv_at hl 3 rfl) ?_
    refine lv_aload_n hx hb dL_law_654 rfl (lv_at hl 1 rfl) ?_
    refine lv_iload hx hb dL_law_655 (lv_at hl 5 rfl) ?_
    refine lv_iconst (v := nI 1) hx hb dL_law_657 ci_1 ?_
    refine z_iadd hx hb dL_law_658 ?_
    refine z_sld hx hb hX hbl hbA hS (by omega) (by omega) dL_law_659 ?_
    refine z_muV (As := [.int (xs (i + 1))]) (rest := []) ⟨hx, hb, hml, hown, hts⟩ (c_X5_startOf l D cI y0 y1 y2 y3 y4 y5 th k n q sg rp lo ea go ak9 gn9 gf9 K Lm t f9 C9 (xs (i + 1)) (by first | assumption | omega) (by first | assumption | omega) (by first | assumption | omega) (by first | assumption | omega)) (cwV 1 hts gL_law_X5_startOf rfl rfl rfl hd_X5_startOf ⟨Nat.le_of_ble_eq_true rfl, Nat.le_of_ble_eq_true rfl⟩) ⟨hK, hE⟩ hP hD rfl hS [17, 18, 19, 20, 21, 22] (by decide) rfl (fun _ => rfl) (va_recv hK hP (ci := 5) (q0 := 17) rfl rfl) rfl hl.1 rfl (Nat.le_of_ble_eq_true rfl) dL_law_660 hcc hs6 (fun v9 u9 H locs hp hP hS => ?_)
    obtain ⟨th2_660, r_660, f2_660, C2_660⟩ := u9
    obtain ⟨rfl, hd_660⟩ := hp
    try dsimp only at hd_660
    have hP : va_P D vwCl [(h0, .inr (4, [.ref b0, .ref m0, .ref p0, .ref s0, .ref q0, .int (nI q), .int (nI sg), .int rp, .int lo, .int ea])), (b0, .inr (0, [.ref b1, .ref b2, .int (nI k)])), (b1, .inl (cI, 32, .inl T)), (b2, .inl (cI, 8, .inl (nA Lf))), (m0, .inr (1, [.ref m1, .int (nI n)])), (m1, .inl (cI, 24, .inl (nA t))), (p0, .inr (2, [.ref p1, .ref p2, .ref p3, .ref p4, .int (nI cnt)])), (p1, .inl (cI, 25, .inl (nA f))), (p2, .inl (cI, 24, .inl (nA lf))), (p3, .inl (cI, 24, .inl C)), (p4, .inl (cI, 24, .inl (nA ps))), (s0, .inr (2, [.ref s1, .ref s2, .ref s3, .ref s4, .int (nI cnts)])), (s1, .inl (cI, 25, .inl (nA fs))), (s2, .inl (cI, 24, .inl (nA lfs))), (s3, .inl (cI, 24, .inl Cs)), (s4, .inl (cI, 24, .inl (nA pss))), (q0, .inr (3, [.int (nI se), .int (nI gf), .int (nI ak), .int (nI gn)])), (y0, .inr (5, [.int (nI th2_660), .int (nI k), .ref y1, .ref y2, .int (nI n), .ref y3, .int (nI q), .int (nI sg), .int rp, .int lo, .int ea, .ref y4, .ref y5, .int (nI go), .int (nI ak9), .int (nI gn9), .int (nI gf9)])), (y1, .inl (cI, 9, .inl K)), (y2, .inl (cI, 9, .inl (nA Lm))), (y3, .inl (cI, 24, .inl (nA t))), (y4, .inl (cI, 25, .inl (nA f2_660))), (y5, .inl (cI, 24, .inl C2_660)), (o, .inl (cL, 1, .inr (.inl (vp_updL fo 0 ((nI (ps j_648)).toInt64)))))] H := hP
    refine W.eq (g2 := F0 mi 663 ls [.int r_660]) rfl ?_
    rw [← hg9] at hd_660
    obtain ⟨z1, z2⟩ := fnd_eq (val := fun j => nI (pM t n K Lm k j)) (by omega) hj_648 hd_660
    replace z1 := z1.symm
    subst z1
    replace z2 := z2.symm
    subst z2
    have hP : va_P D vwCl [(h0, .inr (4, [.ref b0, .ref m0, .ref p0, .ref s0, .ref q0, .int (nI q), .int (nI sg), .int rp, .int lo, .int ea])), (b0, .inr (0, [.ref b1, .ref b2, .int (nI k)])), (b1, .inl (cI, 32, .inl T)), (b2, .inl (cI, 8, .inl (nA Lf))), (m0, .inr (1, [.ref m1, .int (nI n)])), (m1, .inl (cI, 24, .inl (nA t))), (p0, .inr (2, [.ref p1, .ref p2, .ref p3, .ref p4, .int (nI cnt)])), (p1, .inl (cI, 25, .inl (nA f))), (p2, .inl (cI, 24, .inl (nA lf))), (p3, .inl (cI, 24, .inl C)), (p4, .inl (cI, 24, .inl (nA ps))), (s0, .inr (2, [.ref s1, .ref s2, .ref s3, .ref s4, .int (nI cnts)])), (s1, .inl (cI, 25, .inl (nA fs))), (s2, .inl (cI, 24, .inl (nA lfs))), (s3, .inl (cI, 24, .inl Cs)), (s4, .inl (cI, 24, .inl (nA pss))), (q0, .inr (3, [.int (nI se), .int (nI gf), .int (nI ak), .int (nI gn)])), (y0, .inr (5, [.int (nI 0), .int (nI k), .ref y1, .ref y2, .int (nI n), .ref y3, .int (nI q), .int (nI sg), .int rp, .int lo, .int ea, .ref y4, .ref y5, .int (nI go), .int (nI ak9), .int (nI gn9), .int (nI gf9)])), (y1, .inl (cI, 9, .inl K)), (y2, .inl (cI, 9, .inl (nA Lm))), (y3, .inl (cI, 24, .inl (nA t))), (y4, .inl (cI, 25, .inl (nA f2_660))), (y5, .inl (cI, 24, .inl C2_660)), (o, .inl (cL, 1, .inr (.inl (vp_updL fo 0 ((nI (ps j_648)).toInt64)))))] H := hP
    refine lv_istore (lv' := [(6, .int (nI (pM t n K Lm k j_648))), (5, .int (nI 0)), (0, .ref b), (1, .ref h0), (2, .ref y0), (3, .ref o), (4, .int (nI i))]) hx hb dL_law_663 hl (by decide) rfl (fun ls hl => ?_)
    refine lv_aload_n hx hb dL_law_665 rfl (lv_at hl 4 rfl) ?_
    refine z_roV (As := []) (rest := []) ⟨hx, hb, hml, hown, hts⟩ (c_X5_thrown l D cI y0 y1 y2 y3 y4 y5 0 k n q sg rp lo ea go ak9 gn9 gf9) (cwV 0 hts gL_law_X5_thrown rfl rfl rfl hd_X5_thrown ⟨Nat.le_of_ble_eq_true rfl, Nat.le_of_ble_eq_true rfl⟩) ⟨hK, hE⟩ (hP.sub (ws' := [(y0, .inr (5, [.int (nI 0), .int (nI k), .ref y1, .ref y2, .int (nI n), .ref y3, .int (nI q), .int (nI sg), .int rp, .int lo, .int ea, .ref y4, .ref y5, .int (nI go), .int (nI ak9), .int (nI gn9), .int (nI gf9)]))]) [17] rfl) (va_recv hK hP (ci := 5) (q0 := 17) rfl rfl) rfl hl.1 rfl (Nat.le_of_ble_eq_true rfl) dL_law_666 hcc hs6 ?_
    refine lv_iload hx hb dL_law_669 (lv_at hl 1 rfl) ?_
    refine z_icmp_eq (tgt := 676) hx hb dL_law_671 (by decide) (by omega) (by omega) (fun c_671 => ?_) (fun c_671 => ?_)
    · refine lv_iload hx hb dL_law_676 (lv_at hl 1 rfl) ?_
      refine z_if_ne (tgt := 693) hx hb dL_law_678 (by decide) (by omega) (fun c_678 => ?_) (fun c_678 => ?_)
      · exact absurd c_678 (by decide)
      · refine lv_aload_n hx hb dL_law_681 rfl (lv_at hl 5 rfl) ?_
        refine lv_iconst (v := nI 0) hx hb dL_law_682 ci_0 ?_
        refine z_lald0 hx hb hKL hP 23 rfl dL_law_683 ?_
        refine lv_iload hx hb dL_law_684 (lv_at hl 0 rfl) ?_
        refine lv_i2l hx hb dL_law_686 rfl ?_
        refine z_lcmpS hx hb (vp0.trans (congrArg Int32.toInt64 (congrArg nI (cr_p ht hCR hKD hPC hj_648.1).1))) dL_law_687 ?_
        refine z_if_eq (tgt := 693) hx hb dL_law_688 (by decide) (by omega) (fun c_688 => ?_) (fun c_688 => ?_)
        · refine lv_goto (tgt := 1119) hx hb dL_law_693 (by decide) ?_
          refine W.widen (k := cells + 1) (n := slots + 18) (by omega) (by omega) ?_
          exact kk H locs ls ⟨q, sg, rp, lo, ea, T, Lf, k, t, n, f, lf, C, ps, cnt, fs, lfs, Cs, pss, cnts, se, gf, ak, gn, 0, K, Lm, f2_660, C2_660, go, ak9, gn9, gf9, (vp_updL fo 0 ((nI (ps j_648)).toInt64)), hP, (by omega), (by omega), ht, hq, (by omega), hPC, hCR, hKD⟩ hS (lv_sub hl [2, 3, 4, 5, 6] rfl)
        · exact absurd c_688 (by decide)
    · exact absurd c_671 (by decide)
set_option maxHeartbeats 4000000 in
set_option maxRecDepth 100000 in
theorem arm_usesOf {pg : Program} {l : Launch} {ev : Env} {sv : State} {mi : MethodId} {ag : Array Value} {bl : List Frame} {mt : Method} {cd : Code} {H : Heap} {locs : List Loc} {cells slots : Nat} {Q : State → Prop} {ls : Array Slot} {D : va_G} {cI cL : ClassId} {A : Nat → Prop} {H0 : Heap} {b L : Nat} {xs : Nat → Int32} {h0 b0 b1 b2 m0 m1 p0 p1 p2 p3 p4 s0 s1 s2 s3 s4 q0 y0 y1 y2 y3 y4 y5 o sgB i : Nat} (hCx : LCx pg l sv mi ag cd D cI cL A H0 b L xs [h0, b0, b1, b2, m0, m1, p0, p1, p2, p3, p4, s0, s1, s2, s3, s4, q0, y0, y1, y2, y3, y4, y5, o]) (hI : LInv D cI cL h0 b0 b1 b2 m0 m1 p0 p1 p2 p3 p4 s0 s1 s2 s3 s4 q0 y0 y1 y2 y3 y4 y5 o sgB H) (hS : va_S A H0 H locs) (hl : lv_has ls 9 [(0, .ref b), (1, .ref h0), (2, .ref y0), (3, .ref o), (4, .int (nI i))]) (hi : i + 5 ≤ L) (hsB : sgB ≤ 59000) (hcc : cells + 1 ≤ 601024) (hss : slots + 18 ≤ 7293034)
    (kk : ∀ (H1 : Heap) (locs1 : List Loc) (ls1 : Array Slot), LInv D cI cL h0 b0 b1 b2 m0 m1 p0 p1 p2 p3 p4 s0 s1 s2 s3 s4 q0 y0 y1 y2 y3 y4 y5 o (sgB + 96) H1 → va_S A H0 H1 locs1 → lv_has ls1 9 [(0, .ref b), (1, .ref h0), (2, .ref y0), (3, .ref o), (4, .int (nI i))] → W pg l ev room_1 sv mi ag bl mt cd H1 locs1 (cells + 1) (slots + 18) Q (F0 mi 1119 ls1 [])) : W pg l ev room_1 sv mi ag bl mt cd H locs cells slots Q (F0 mi 696 ls []) := by
  obtain ⟨hx, hb, hml, hts, hown, hKL, hE, hlt, hX, hbl, hbA, hT0, hL9, hD, hA⟩ := hCx
  obtain ⟨q, sg, rp, lo, ea, T, Lf, k, t, n, f, lf, C, ps, cnt, fs, lfs, Cs, pss, cnts, se, gf, ak, gn, th, K, Lm, f9, C9, go, ak9, gn9, gf9, fo, hP, hk, hn, ht, hq, hsg0, hPC, hCR, hKD⟩ := hI
  have hP : va_P D vwCl [(h0, .inr (4, [.ref b0, .ref m0, .ref p0, .ref s0, .ref q0, .int (nI q), .int (nI sg), .int rp, .int lo, .int ea])), (b0, .inr (0, [.ref b1, .ref b2, .int (nI k)])), (b1, .inl (cI, 32, .inl T)), (b2, .inl (cI, 8, .inl (nA Lf))), (m0, .inr (1, [.ref m1, .int (nI n)])), (m1, .inl (cI, 24, .inl (nA t))), (p0, .inr (2, [.ref p1, .ref p2, .ref p3, .ref p4, .int (nI cnt)])), (p1, .inl (cI, 25, .inl (nA f))), (p2, .inl (cI, 24, .inl (nA lf))), (p3, .inl (cI, 24, .inl C)), (p4, .inl (cI, 24, .inl (nA ps))), (s0, .inr (2, [.ref s1, .ref s2, .ref s3, .ref s4, .int (nI cnts)])), (s1, .inl (cI, 25, .inl (nA fs))), (s2, .inl (cI, 24, .inl (nA lfs))), (s3, .inl (cI, 24, .inl Cs)), (s4, .inl (cI, 24, .inl (nA pss))), (q0, .inr (3, [.int (nI se), .int (nI gf), .int (nI ak), .int (nI gn)])), (y0, .inr (5, [.int (nI th), .int (nI k), .ref y1, .ref y2, .int (nI n), .ref y3, .int (nI q), .int (nI sg), .int rp, .int lo, .int ea, .ref y4, .ref y5, .int (nI go), .int (nI ak9), .int (nI gn9), .int (nI gf9)])), (y1, .inl (cI, 9, .inl K)), (y2, .inl (cI, 9, .inl (nA Lm))), (y3, .inl (cI, 24, .inl (nA t))), (y4, .inl (cI, 25, .inl (nA f9))), (y5, .inl (cI, 24, .inl C9)), (o, .inl (cL, 1, .inr (.inl fo)))] H := hP
  have hK := hKL.sub (tys' := [(cI, .int)]) [0] rfl
  have hT := zT.kept hT0 (fun a h1 h2 => hS.2.1 a h1 h2)
  have hL := cr_L hCR
  have hLk := cr_Lm hCR
  have hKk := cr_K hCR
  have hsg : sg ≤ 60000 := by omega
  have hst : ∀ g, g < cnt → ps g < n := fun g hg => by rw [(hPC.2.1 g hg).1]; exact (hPC.2.1 g hg).2
  have hcnt : cnt ≤ 24 := Nat.le_trans hPC.2.2.2 hn
  have hps : ∀ j, j < cnt → ps j < 24 := fun j hj => Nat.lt_of_lt_of_le (hst j hj) hn
  have hc0 : cells ≤ room_1.cells := Nat.le_trans (Nat.le_succ _) hcc
  have hs0 : slots ≤ room_1.slots := Nat.le_trans (Nat.le_add_right _ _) hss
  have hs6 : slots + 6 ≤ room_1.slots := Nat.le_trans (Nat.add_le_add_left (by decide) _) hss
  have hg9 := cr_g ht hCR hKD hPC
  refine lv_aload_n hx hb dL_law_696 rfl (lv_at hl 1 rfl) ?_
  refine lv_aload_n hx hb dL_law_697 rfl (lv_at hl 0 rfl) ?_
  refine lv_iload hx hb dL_law_698 (lv_at hl 4 rfl) ?_
  refine lv_iconst (v := nI 1) hx hb dL_law_700 ci_1 ?_
  refine z_iadd hx hb dL_law_701 ?_
  refine z_sld hx hb hX hbl hbA hS (by omega) (by omega) dL_law_702 ?_
  refine lv_aload_n hx hb dL_law_703 rfl (lv_at hl 3 rfl) ?_
  refine z_lxS (As := [.ref h0, .int (xs (i + 1)), .ref o]) (rest := []) ⟨hx, hb, hml, hown, hts⟩ (c_L_usesOf l D cI cL o fo h0 b0 m0 p0 s0 q0 q sg rp lo ea b1 b2 k p1 p2 p3 p4 f lf C ps cnt (xs (i + 1)) (by first | assumption | omega) (by first | assumption | omega) (by first | assumption | omega) hlt) (vx_cwSW 3 hts gL_law_L_usesOf rfl rfl rfl hd_L_usesOf ⟨Nat.le_of_ble_eq_true rfl, Nat.le_of_ble_eq_true rfl⟩) ⟨hKL, hE⟩ hP hD rfl hS hT [0, 1, 6, 7, 8, 9, 10, 23] (by decide) rfl (fun u => by rcases u with _ | u <;> rfl) rfl hl.1 rfl (Nat.le_of_ble_eq_true rfl) dL_law_704 hcc hs6 (fun v9 u9 H locs hp hP hS hk9 => ?_)
  rcases u9 with _ | ⟨u9, r9⟩
  · obtain ⟨E9, ⟨rfl, hcond⟩, rfl⟩ := hp
    have hP : va_P D vwCl [(h0, .inr (4, [.ref b0, .ref m0, .ref p0, .ref s0, .ref q0, .int (nI q), .int (nI sg), .int rp, .int lo, .int ea])), (b0, .inr (0, [.ref b1, .ref b2, .int (nI k)])), (b1, .inl (cI, 32, .inl T)), (b2, .inl (cI, 8, .inl (nA Lf))), (m0, .inr (1, [.ref m1, .int (nI n)])), (m1, .inl (cI, 24, .inl (nA t))), (p0, .inr (2, [.ref p1, .ref p2, .ref p3, .ref p4, .int (nI cnt)])), (p1, .inl (cI, 25, .inl (nA f))), (p2, .inl (cI, 24, .inl (nA lf))), (p3, .inl (cI, 24, .inl C)), (p4, .inl (cI, 24, .inl (nA ps))), (s0, .inr (2, [.ref s1, .ref s2, .ref s3, .ref s4, .int (nI cnts)])), (s1, .inl (cI, 25, .inl (nA fs))), (s2, .inl (cI, 24, .inl (nA lfs))), (s3, .inl (cI, 24, .inl Cs)), (s4, .inl (cI, 24, .inl (nA pss))), (q0, .inr (3, [.int (nI se), .int (nI gf), .int (nI ak), .int (nI gn)])), (y0, .inr (5, [.int (nI th), .int (nI k), .ref y1, .ref y2, .int (nI n), .ref y3, .int (nI q), .int (nI sg), .int rp, .int lo, .int ea, .ref y4, .ref y5, .int (nI go), .int (nI ak9), .int (nI gn9), .int (nI gf9)])), (y1, .inl (cI, 9, .inl K)), (y2, .inl (cI, 9, .inl (nA Lm))), (y3, .inl (cI, 24, .inl (nA t))), (y4, .inl (cI, 25, .inl (nA f9))), (y5, .inl (cI, 24, .inl C9)), (o, .inl (cL, 1, .inr (.inl fo)))] H := hP
    refine W.eq (g2 := F0 mi 707 ls [.int (nI 1)]) rfl ?_
    refine lv_istore (lv' := [(5, .int (nI 1)), (0, .ref b), (1, .ref h0), (2, .ref y0), (3, .ref o), (4, .int (nI i))]) hx hb dL_law_707 hl (by decide) rfl (fun ls hl => ?_)
    refine lv_aload_n hx hb dL_law_709 rfl (lv_at hl 3 rfl) ?_
    refine lv_aload_n hx hb dL_law_710 rfl (lv_at hl 1 rfl) ?_
    refine lv_iload hx hb dL_law_711 (lv_at hl 5 rfl) ?_
    refine lv_iconst (v := nI 1) hx hb dL_law_713 ci_1 ?_
    refine z_iadd hx hb dL_law_714 ?_
    refine z_sld hx hb hX hbl hbA hS (by omega) (by omega) dL_law_715 ?_
    refine z_muV (As := [.int (xs (i + 1))]) (rest := []) ⟨hx, hb, hml, hown, hts⟩ (c_X5_usesOf l D cI y0 y1 y2 y3 y4 y5 th k n q sg rp lo ea go ak9 gn9 gf9 K Lm t f9 C9 (xs (i + 1)) (by first | assumption | omega) (by first | assumption | omega) (by first | assumption | omega) (by first | assumption | omega)) (cwV 1 hts gL_law_X5_usesOf rfl rfl rfl hd_X5_usesOf ⟨Nat.le_of_ble_eq_true rfl, Nat.le_of_ble_eq_true rfl⟩) ⟨hK, hE⟩ hP hD rfl hS [17, 18, 19, 20, 21, 22] (by decide) rfl (fun _ => rfl) (va_recv hK hP (ci := 5) (q0 := 17) rfl rfl) rfl hl.1 rfl (Nat.le_of_ble_eq_true rfl) dL_law_716 hcc hs6 (fun v9 u9 H locs hp hP hS => ?_)
    obtain ⟨th2_716, r_716, f2_716, C2_716⟩ := u9
    obtain ⟨rfl, hd_716⟩ := hp
    try dsimp only at hd_716
    have hP : va_P D vwCl [(h0, .inr (4, [.ref b0, .ref m0, .ref p0, .ref s0, .ref q0, .int (nI q), .int (nI sg), .int rp, .int lo, .int ea])), (b0, .inr (0, [.ref b1, .ref b2, .int (nI k)])), (b1, .inl (cI, 32, .inl T)), (b2, .inl (cI, 8, .inl (nA Lf))), (m0, .inr (1, [.ref m1, .int (nI n)])), (m1, .inl (cI, 24, .inl (nA t))), (p0, .inr (2, [.ref p1, .ref p2, .ref p3, .ref p4, .int (nI cnt)])), (p1, .inl (cI, 25, .inl (nA f))), (p2, .inl (cI, 24, .inl (nA lf))), (p3, .inl (cI, 24, .inl C)), (p4, .inl (cI, 24, .inl (nA ps))), (s0, .inr (2, [.ref s1, .ref s2, .ref s3, .ref s4, .int (nI cnts)])), (s1, .inl (cI, 25, .inl (nA fs))), (s2, .inl (cI, 24, .inl (nA lfs))), (s3, .inl (cI, 24, .inl Cs)), (s4, .inl (cI, 24, .inl (nA pss))), (q0, .inr (3, [.int (nI se), .int (nI gf), .int (nI ak), .int (nI gn)])), (y0, .inr (5, [.int (nI th2_716), .int (nI k), .ref y1, .ref y2, .int (nI n), .ref y3, .int (nI q), .int (nI sg), .int rp, .int lo, .int ea, .ref y4, .ref y5, .int (nI go), .int (nI ak9), .int (nI gn9), .int (nI gf9)])), (y1, .inl (cI, 9, .inl K)), (y2, .inl (cI, 9, .inl (nA Lm))), (y3, .inl (cI, 24, .inl (nA t))), (y4, .inl (cI, 25, .inl (nA f2_716))), (y5, .inl (cI, 24, .inl C2_716)), (o, .inl (cL, 1, .inr (.inl fo)))] H := hP
    refine W.eq (g2 := F0 mi 719 ls [.int r_716]) rfl ?_
    obtain ⟨z1, z2⟩ := fnd_no (val := fun j => nI (usM t n K Lm k (nI j))) hcond hd_716
    replace z1 := z1.symm
    subst z1
    replace z2 := z2.symm
    subst z2
    have hP : va_P D vwCl [(h0, .inr (4, [.ref b0, .ref m0, .ref p0, .ref s0, .ref q0, .int (nI q), .int (nI sg), .int rp, .int lo, .int ea])), (b0, .inr (0, [.ref b1, .ref b2, .int (nI k)])), (b1, .inl (cI, 32, .inl T)), (b2, .inl (cI, 8, .inl (nA Lf))), (m0, .inr (1, [.ref m1, .int (nI n)])), (m1, .inl (cI, 24, .inl (nA t))), (p0, .inr (2, [.ref p1, .ref p2, .ref p3, .ref p4, .int (nI cnt)])), (p1, .inl (cI, 25, .inl (nA f))), (p2, .inl (cI, 24, .inl (nA lf))), (p3, .inl (cI, 24, .inl C)), (p4, .inl (cI, 24, .inl (nA ps))), (s0, .inr (2, [.ref s1, .ref s2, .ref s3, .ref s4, .int (nI cnts)])), (s1, .inl (cI, 25, .inl (nA fs))), (s2, .inl (cI, 24, .inl (nA lfs))), (s3, .inl (cI, 24, .inl Cs)), (s4, .inl (cI, 24, .inl (nA pss))), (q0, .inr (3, [.int (nI se), .int (nI gf), .int (nI ak), .int (nI gn)])), (y0, .inr (5, [.int (nI 1), .int (nI k), .ref y1, .ref y2, .int (nI n), .ref y3, .int (nI q), .int (nI sg), .int rp, .int lo, .int ea, .ref y4, .ref y5, .int (nI go), .int (nI ak9), .int (nI gn9), .int (nI gf9)])), (y1, .inl (cI, 9, .inl K)), (y2, .inl (cI, 9, .inl (nA Lm))), (y3, .inl (cI, 24, .inl (nA t))), (y4, .inl (cI, 25, .inl (nA f2_716))), (y5, .inl (cI, 24, .inl C2_716)), (o, .inl (cL, 1, .inr (.inl fo)))] H := hP
    refine lv_istore (lv' := [(6, .int (nI 0)), (5, .int (nI 1)), (0, .ref b), (1, .ref h0), (2, .ref y0), (3, .ref o), (4, .int (nI i))]) hx hb dL_law_719 hl (by decide) rfl (fun ls hl => ?_)
    refine lv_aload_n hx hb dL_law_721 rfl (lv_at hl 4 rfl) ?_
    refine z_roV (As := []) (rest := []) ⟨hx, hb, hml, hown, hts⟩ (c_X5_thrown l D cI y0 y1 y2 y3 y4 y5 1 k n q sg rp lo ea go ak9 gn9 gf9) (cwV 0 hts gL_law_X5_thrown rfl rfl rfl hd_X5_thrown ⟨Nat.le_of_ble_eq_true rfl, Nat.le_of_ble_eq_true rfl⟩) ⟨hK, hE⟩ (hP.sub (ws' := [(y0, .inr (5, [.int (nI 1), .int (nI k), .ref y1, .ref y2, .int (nI n), .ref y3, .int (nI q), .int (nI sg), .int rp, .int lo, .int ea, .ref y4, .ref y5, .int (nI go), .int (nI ak9), .int (nI gn9), .int (nI gf9)]))]) [17] rfl) (va_recv hK hP (ci := 5) (q0 := 17) rfl rfl) rfl hl.1 rfl (Nat.le_of_ble_eq_true rfl) dL_law_722 hcc hs6 ?_
    refine lv_iload hx hb dL_law_725 (lv_at hl 1 rfl) ?_
    refine z_icmp_eq (tgt := 732) hx hb dL_law_727 (by decide) (by omega) (by omega) (fun c_727 => ?_) (fun c_727 => ?_)
    · refine lv_iload hx hb dL_law_732 (lv_at hl 1 rfl) ?_
      refine z_if_ne (tgt := 749) hx hb dL_law_734 (by decide) (by omega) (fun c_734 => ?_) (fun c_734 => ?_)
      · refine lv_goto (tgt := 1119) hx hb dL_law_749 (by decide) ?_
        refine W.widen (k := cells + 1) (n := slots + 18) (by omega) (by omega) ?_
        exact kk H locs ls ⟨q, sg, rp, lo, ea, T, Lf, k, t, n, f, lf, C, ps, cnt, fs, lfs, Cs, pss, cnts, se, gf, ak, gn, 1, K, Lm, f2_716, C2_716, go, ak9, gn9, gf9, fo, hP, (by omega), (by omega), ht, hq, (by omega), hPC, hCR, hKD⟩ hS (lv_sub hl [2, 3, 4, 5, 6] rfl)
      · exact absurd c_734 (by decide)
    · exact absurd c_727 (by decide)
  · obtain ⟨j_704, rfl⟩ : ∃ z, z = u9 := ⟨_, rfl⟩
    obtain ⟨rfl, hr9, hj_704⟩ := hp
    try dsimp only at hr9
    have hr8 := (Value.int.inj (Option.some.inj hr9)).symm
    subst hr8
    try dsimp only at hj_704
    have hP : va_P D vwCl [(h0, .inr (4, [.ref b0, .ref m0, .ref p0, .ref s0, .ref q0, .int (nI q), .int (nI sg), .int rp, .int lo, .int ea])), (b0, .inr (0, [.ref b1, .ref b2, .int (nI k)])), (b1, .inl (cI, 32, .inl T)), (b2, .inl (cI, 8, .inl (nA Lf))), (m0, .inr (1, [.ref m1, .int (nI n)])), (m1, .inl (cI, 24, .inl (nA t))), (p0, .inr (2, [.ref p1, .ref p2, .ref p3, .ref p4, .int (nI cnt)])), (p1, .inl (cI, 25, .inl (nA f))), (p2, .inl (cI, 24, .inl (nA lf))), (p3, .inl (cI, 24, .inl C)), (p4, .inl (cI, 24, .inl (nA ps))), (s0, .inr (2, [.ref s1, .ref s2, .ref s3, .ref s4, .int (nI cnts)])), (s1, .inl (cI, 25, .inl (nA fs))), (s2, .inl (cI, 24, .inl (nA lfs))), (s3, .inl (cI, 24, .inl Cs)), (s4, .inl (cI, 24, .inl (nA pss))), (q0, .inr (3, [.int (nI se), .int (nI gf), .int (nI ak), .int (nI gn)])), (y0, .inr (5, [.int (nI th), .int (nI k), .ref y1, .ref y2, .int (nI n), .ref y3, .int (nI q), .int (nI sg), .int rp, .int lo, .int ea, .ref y4, .ref y5, .int (nI go), .int (nI ak9), .int (nI gn9), .int (nI gf9)])), (y1, .inl (cI, 9, .inl K)), (y2, .inl (cI, 9, .inl (nA Lm))), (y3, .inl (cI, 24, .inl (nA t))), (y4, .inl (cI, 25, .inl (nA f9))), (y5, .inl (cI, 24, .inl C9)), (o, .inl (cL, 1, .inr (.inl (vp_updL fo 0 ((nI (cN (fun i => C (ps i) = nI j_704) cnt)).toInt64)))))] H := hP
    refine W.eq (g2 := F0 mi 707 ls [.int (nI 0)]) rfl ?_
    refine lv_istore (lv' := [(5, .int (nI 0)), (0, .ref b), (1, .ref h0), (2, .ref y0), (3, .ref o), (4, .int (nI i))]) hx hb dL_law_707 hl (by decide) rfl (fun ls hl => ?_)
    refine lv_aload_n hx hb dL_law_709 rfl (lv_at hl 3 rfl) ?_
    refine lv_aload_n hx hb dL_law_710 rfl (lv_at hl 1 rfl) ?_
    refine lv_iload hx hb dL_law_711 (lv_at hl 5 rfl) ?_
    refine lv_iconst (v := nI 1) hx hb dL_law_713 ci_1 ?_
    refine z_iadd hx hb dL_law_714 ?_
    refine z_sld hx hb hX hbl hbA hS (by omega) (by omega) dL_law_715 ?_
    refine z_muV (As := [.int (xs (i + 1))]) (rest := []) ⟨hx, hb, hml, hown, hts⟩ (c_X5_usesOf l D cI y0 y1 y2 y3 y4 y5 th k n q sg rp lo ea go ak9 gn9 gf9 K Lm t f9 C9 (xs (i + 1)) (by first | assumption | omega) (by first | assumption | omega) (by first | assumption | omega) (by first | assumption | omega)) (cwV 1 hts gL_law_X5_usesOf rfl rfl rfl hd_X5_usesOf ⟨Nat.le_of_ble_eq_true rfl, Nat.le_of_ble_eq_true rfl⟩) ⟨hK, hE⟩ hP hD rfl hS [17, 18, 19, 20, 21, 22] (by decide) rfl (fun _ => rfl) (va_recv hK hP (ci := 5) (q0 := 17) rfl rfl) rfl hl.1 rfl (Nat.le_of_ble_eq_true rfl) dL_law_716 hcc hs6 (fun v9 u9 H locs hp hP hS => ?_)
    obtain ⟨th2_716, r_716, f2_716, C2_716⟩ := u9
    obtain ⟨rfl, hd_716⟩ := hp
    try dsimp only at hd_716
    have hP : va_P D vwCl [(h0, .inr (4, [.ref b0, .ref m0, .ref p0, .ref s0, .ref q0, .int (nI q), .int (nI sg), .int rp, .int lo, .int ea])), (b0, .inr (0, [.ref b1, .ref b2, .int (nI k)])), (b1, .inl (cI, 32, .inl T)), (b2, .inl (cI, 8, .inl (nA Lf))), (m0, .inr (1, [.ref m1, .int (nI n)])), (m1, .inl (cI, 24, .inl (nA t))), (p0, .inr (2, [.ref p1, .ref p2, .ref p3, .ref p4, .int (nI cnt)])), (p1, .inl (cI, 25, .inl (nA f))), (p2, .inl (cI, 24, .inl (nA lf))), (p3, .inl (cI, 24, .inl C)), (p4, .inl (cI, 24, .inl (nA ps))), (s0, .inr (2, [.ref s1, .ref s2, .ref s3, .ref s4, .int (nI cnts)])), (s1, .inl (cI, 25, .inl (nA fs))), (s2, .inl (cI, 24, .inl (nA lfs))), (s3, .inl (cI, 24, .inl Cs)), (s4, .inl (cI, 24, .inl (nA pss))), (q0, .inr (3, [.int (nI se), .int (nI gf), .int (nI ak), .int (nI gn)])), (y0, .inr (5, [.int (nI th2_716), .int (nI k), .ref y1, .ref y2, .int (nI n), .ref y3, .int (nI q), .int (nI sg), .int rp, .int lo, .int ea, .ref y4, .ref y5, .int (nI go), .int (nI ak9), .int (nI gn9), .int (nI gf9)])), (y1, .inl (cI, 9, .inl K)), (y2, .inl (cI, 9, .inl (nA Lm))), (y3, .inl (cI, 24, .inl (nA t))), (y4, .inl (cI, 25, .inl (nA f2_716))), (y5, .inl (cI, 24, .inl C2_716)), (o, .inl (cL, 1, .inr (.inl (vp_updL fo 0 ((nI (cN (fun i => C (ps i) = nI j_704) cnt)).toInt64)))))] H := hP
    refine W.eq (g2 := F0 mi 719 ls [.int r_716]) rfl ?_
    obtain ⟨z1, z2⟩ := fnd_eq (val := fun j => nI (usM t n K Lm k (nI j))) (by omega) hj_704 hd_716
    replace z1 := z1.symm
    subst z1
    replace z2 := z2.symm
    subst z2
    have hP : va_P D vwCl [(h0, .inr (4, [.ref b0, .ref m0, .ref p0, .ref s0, .ref q0, .int (nI q), .int (nI sg), .int rp, .int lo, .int ea])), (b0, .inr (0, [.ref b1, .ref b2, .int (nI k)])), (b1, .inl (cI, 32, .inl T)), (b2, .inl (cI, 8, .inl (nA Lf))), (m0, .inr (1, [.ref m1, .int (nI n)])), (m1, .inl (cI, 24, .inl (nA t))), (p0, .inr (2, [.ref p1, .ref p2, .ref p3, .ref p4, .int (nI cnt)])), (p1, .inl (cI, 25, .inl (nA f))), (p2, .inl (cI, 24, .inl (nA lf))), (p3, .inl (cI, 24, .inl C)), (p4, .inl (cI, 24, .inl (nA ps))), (s0, .inr (2, [.ref s1, .ref s2, .ref s3, .ref s4, .int (nI cnts)])), (s1, .inl (cI, 25, .inl (nA fs))), (s2, .inl (cI, 24, .inl (nA lfs))), (s3, .inl (cI, 24, .inl Cs)), (s4, .inl (cI, 24, .inl (nA pss))), (q0, .inr (3, [.int (nI se), .int (nI gf), .int (nI ak), .int (nI gn)])), (y0, .inr (5, [.int (nI 0), .int (nI k), .ref y1, .ref y2, .int (nI n), .ref y3, .int (nI q), .int (nI sg), .int rp, .int lo, .int ea, .ref y4, .ref y5, .int (nI go), .int (nI ak9), .int (nI gn9), .int (nI gf9)])), (y1, .inl (cI, 9, .inl K)), (y2, .inl (cI, 9, .inl (nA Lm))), (y3, .inl (cI, 24, .inl (nA t))), (y4, .inl (cI, 25, .inl (nA f2_716))), (y5, .inl (cI, 24, .inl C2_716)), (o, .inl (cL, 1, .inr (.inl (vp_updL fo 0 ((nI (cN (fun i => C (ps i) = nI j_704) cnt)).toInt64)))))] H := hP
    refine lv_istore (lv' := [(6, .int (nI (usM t n K Lm k (nI j_704)))), (5, .int (nI 0)), (0, .ref b), (1, .ref h0), (2, .ref y0), (3, .ref o), (4, .int (nI i))]) hx hb dL_law_719 hl (by decide) rfl (fun ls hl => ?_)
    refine lv_aload_n hx hb dL_law_721 rfl (lv_at hl 4 rfl) ?_
    refine z_roV (As := []) (rest := []) ⟨hx, hb, hml, hown, hts⟩ (c_X5_thrown l D cI y0 y1 y2 y3 y4 y5 0 k n q sg rp lo ea go ak9 gn9 gf9) (cwV 0 hts gL_law_X5_thrown rfl rfl rfl hd_X5_thrown ⟨Nat.le_of_ble_eq_true rfl, Nat.le_of_ble_eq_true rfl⟩) ⟨hK, hE⟩ (hP.sub (ws' := [(y0, .inr (5, [.int (nI 0), .int (nI k), .ref y1, .ref y2, .int (nI n), .ref y3, .int (nI q), .int (nI sg), .int rp, .int lo, .int ea, .ref y4, .ref y5, .int (nI go), .int (nI ak9), .int (nI gn9), .int (nI gf9)]))]) [17] rfl) (va_recv hK hP (ci := 5) (q0 := 17) rfl rfl) rfl hl.1 rfl (Nat.le_of_ble_eq_true rfl) dL_law_722 hcc hs6 ?_
    refine lv_iload hx hb dL_law_725 (lv_at hl 1 rfl) ?_
    refine z_icmp_eq (tgt := 732) hx hb dL_law_727 (by decide) (by omega) (by omega) (fun c_727 => ?_) (fun c_727 => ?_)
    · refine lv_iload hx hb dL_law_732 (lv_at hl 1 rfl) ?_
      refine z_if_ne (tgt := 749) hx hb dL_law_734 (by decide) (by omega) (fun c_734 => ?_) (fun c_734 => ?_)
      · exact absurd c_734 (by decide)
      · refine lv_aload_n hx hb dL_law_737 rfl (lv_at hl 5 rfl) ?_
        refine lv_iconst (v := nI 0) hx hb dL_law_738 ci_0 ?_
        refine z_lald0 hx hb hKL hP 23 rfl dL_law_739 ?_
        refine lv_iload hx hb dL_law_740 (lv_at hl 0 rfl) ?_
        refine lv_i2l hx hb dL_law_742 rfl ?_
        refine z_lcmpS hx hb (vp0.trans (congrArg Int32.toInt64 (congrArg nI (cr_us ht hCR hKD hPC _)))) dL_law_743 ?_
        refine z_if_eq (tgt := 749) hx hb dL_law_744 (by decide) (by omega) (fun c_744 => ?_) (fun c_744 => ?_)
        · refine lv_goto (tgt := 1119) hx hb dL_law_749 (by decide) ?_
          refine W.widen (k := cells + 1) (n := slots + 18) (by omega) (by omega) ?_
          exact kk H locs ls ⟨q, sg, rp, lo, ea, T, Lf, k, t, n, f, lf, C, ps, cnt, fs, lfs, Cs, pss, cnts, se, gf, ak, gn, 0, K, Lm, f2_716, C2_716, go, ak9, gn9, gf9, (vp_updL fo 0 ((nI (cN (fun i => C (ps i) = nI j_704) cnt)).toInt64)), hP, (by omega), (by omega), ht, hq, (by omega), hPC, hCR, hKD⟩ hS (lv_sub hl [2, 3, 4, 5, 6] rfl)
        · exact absurd c_744 (by decide)
    · exact absurd c_727 (by decide)
set_option maxHeartbeats 4000000 in
set_option maxRecDepth 100000 in
theorem arm_addCode {pg : Program} {l : Launch} {ev : Env} {sv : State} {mi : MethodId} {ag : Array Value} {bl : List Frame} {mt : Method} {cd : Code} {H : Heap} {locs : List Loc} {cells slots : Nat} {Q : State → Prop} {ls : Array Slot} {D : va_G} {cI cL : ClassId} {A : Nat → Prop} {H0 : Heap} {b L : Nat} {xs : Nat → Int32} {h0 b0 b1 b2 m0 m1 p0 p1 p2 p3 p4 s0 s1 s2 s3 s4 q0 y0 y1 y2 y3 y4 y5 o sgB i : Nat} (hCx : LCx pg l sv mi ag cd D cI cL A H0 b L xs [h0, b0, b1, b2, m0, m1, p0, p1, p2, p3, p4, s0, s1, s2, s3, s4, q0, y0, y1, y2, y3, y4, y5, o]) (hI : LInv D cI cL h0 b0 b1 b2 m0 m1 p0 p1 p2 p3 p4 s0 s1 s2 s3 s4 q0 y0 y1 y2 y3 y4 y5 o sgB H) (hS : va_S A H0 H locs) (hl : lv_has ls 9 [(0, .ref b), (1, .ref h0), (2, .ref y0), (3, .ref o), (4, .int (nI i))]) (hi : i + 5 ≤ L) (hsB : sgB ≤ 59000) (hcc : cells + 1 ≤ 601024) (hss : slots + 18 ≤ 7293034)
    (kk : ∀ (H1 : Heap) (locs1 : List Loc) (ls1 : Array Slot), LInv D cI cL h0 b0 b1 b2 m0 m1 p0 p1 p2 p3 p4 s0 s1 s2 s3 s4 q0 y0 y1 y2 y3 y4 y5 o (sgB + 96) H1 → va_S A H0 H1 locs1 → lv_has ls1 9 [(0, .ref b), (1, .ref h0), (2, .ref y0), (3, .ref o), (4, .int (nI i))] → W pg l ev room_1 sv mi ag bl mt cd H1 locs1 (cells + 1) (slots + 18) Q (F0 mi 1119 ls1 [])) : W pg l ev room_1 sv mi ag bl mt cd H locs cells slots Q (F0 mi 172 ls []) := by
  obtain ⟨hx, hb, hml, hts, hown, hKL, hE, hlt, hX, hbl, hbA, hT0, hL9, hD, hA⟩ := hCx
  obtain ⟨q, sg, rp, lo, ea, T, Lf, k, t, n, f, lf, C, ps, cnt, fs, lfs, Cs, pss, cnts, se, gf, ak, gn, th, K, Lm, f9, C9, go, ak9, gn9, gf9, fo, hP, hk, hn, ht, hq, hsg0, hPC, hCR, hKD⟩ := hI
  have hP : va_P D vwCl [(h0, .inr (4, [.ref b0, .ref m0, .ref p0, .ref s0, .ref q0, .int (nI q), .int (nI sg), .int rp, .int lo, .int ea])), (b0, .inr (0, [.ref b1, .ref b2, .int (nI k)])), (b1, .inl (cI, 32, .inl T)), (b2, .inl (cI, 8, .inl (nA Lf))), (m0, .inr (1, [.ref m1, .int (nI n)])), (m1, .inl (cI, 24, .inl (nA t))), (p0, .inr (2, [.ref p1, .ref p2, .ref p3, .ref p4, .int (nI cnt)])), (p1, .inl (cI, 25, .inl (nA f))), (p2, .inl (cI, 24, .inl (nA lf))), (p3, .inl (cI, 24, .inl C)), (p4, .inl (cI, 24, .inl (nA ps))), (s0, .inr (2, [.ref s1, .ref s2, .ref s3, .ref s4, .int (nI cnts)])), (s1, .inl (cI, 25, .inl (nA fs))), (s2, .inl (cI, 24, .inl (nA lfs))), (s3, .inl (cI, 24, .inl Cs)), (s4, .inl (cI, 24, .inl (nA pss))), (q0, .inr (3, [.int (nI se), .int (nI gf), .int (nI ak), .int (nI gn)])), (y0, .inr (5, [.int (nI th), .int (nI k), .ref y1, .ref y2, .int (nI n), .ref y3, .int (nI q), .int (nI sg), .int rp, .int lo, .int ea, .ref y4, .ref y5, .int (nI go), .int (nI ak9), .int (nI gn9), .int (nI gf9)])), (y1, .inl (cI, 9, .inl K)), (y2, .inl (cI, 9, .inl (nA Lm))), (y3, .inl (cI, 24, .inl (nA t))), (y4, .inl (cI, 25, .inl (nA f9))), (y5, .inl (cI, 24, .inl C9)), (o, .inl (cL, 1, .inr (.inl fo)))] H := hP
  have hK := hKL.sub (tys' := [(cI, .int)]) [0] rfl
  have hT := zT.kept hT0 (fun a h1 h2 => hS.2.1 a h1 h2)
  have hL := cr_L hCR
  have hLk := cr_Lm hCR
  have hKk := cr_K hCR
  have hsg : sg ≤ 60000 := by omega
  have hst : ∀ g, g < cnt → ps g < n := fun g hg => by rw [(hPC.2.1 g hg).1]; exact (hPC.2.1 g hg).2
  have hcnt : cnt ≤ 24 := Nat.le_trans hPC.2.2.2 hn
  have hps : ∀ j, j < cnt → ps j < 24 := fun j hj => Nat.lt_of_lt_of_le (hst j hj) hn
  have hc0 : cells ≤ room_1.cells := Nat.le_trans (Nat.le_succ _) hcc
  have hs0 : slots ≤ room_1.slots := Nat.le_trans (Nat.le_add_right _ _) hss
  have hs6 : slots + 6 ≤ room_1.slots := Nat.le_trans (Nat.add_le_add_left (by decide) _) hss
  have hg9 := cr_g ht hCR hKD hPC
  refine lv_aload_n hx hb dL_law_172 rfl (lv_at hl 1 rfl) ?_
  refine lv_aload_n hx hb dL_law_173 rfl (lv_at hl 0 rfl) ?_
  refine lv_iload hx hb dL_law_174 (lv_at hl 4 rfl) ?_
  refine lv_iconst (v := nI 1) hx hb dL_law_176 ci_1 ?_
  refine z_iadd hx hb dL_law_177 ?_
  refine z_sld hx hb hX hbl hbA hS (by omega) (by omega) dL_law_178 ?_
  refine lv_aload_n hx hb dL_law_179 rfl (lv_at hl 0 rfl) ?_
  refine lv_iload hx hb dL_law_180 (lv_at hl 4 rfl) ?_
  refine lv_iconst (v := nI 2) hx hb dL_law_182 ci_2 ?_
  refine z_iadd hx hb dL_law_183 ?_
  refine z_sld hx hb hX hbl hbA hS (by omega) (by omega) dL_law_184 ?_
  refine lv_aload_n hx hb dL_law_185 rfl (lv_at hl 0 rfl) ?_
  refine lv_iload hx hb dL_law_186 (lv_at hl 4 rfl) ?_
  refine lv_iconst (v := nI 3) hx hb dL_law_188 ci_3 ?_
  refine z_iadd hx hb dL_law_189 ?_
  refine z_sld hx hb hX hbl hbA hS (by omega) (by omega) dL_law_190 ?_
  refine lv_aload_n hx hb dL_law_191 rfl (lv_at hl 0 rfl) ?_
  refine lv_iload hx hb dL_law_192 (lv_at hl 4 rfl) ?_
  refine lv_iconst (v := nI 4) hx hb dL_law_194 ci_4 ?_
  refine z_iadd hx hb dL_law_195 ?_
  refine z_sld hx hb hX hbl hbA hS (by omega) (by omega) dL_law_196 ?_
  refine lv_aload_n hx hb dL_law_197 rfl (lv_at hl 3 rfl) ?_
  refine z_lxS (As := [.ref h0, .int (xs (i + 1)), .int (xs (i + 2)), .int (xs (i + 3)), .int (xs (i + 4)), .ref o]) (rest := []) ⟨hx, hb, hml, hown, hts⟩ (c_L_addCode l D cI cL o fo h0 b0 m0 p0 s0 q0 q sg rp lo ea p1 p2 p3 p4 f lf C ps cnt m1 t n b1 b2 T Lf k (xs (i + 1)) (xs (i + 2)) (xs (i + 3)) (xs (i + 4)) (by first | assumption | omega) (by first | assumption | omega) (by first | assumption | omega) hlt) (vx_cwSW 6 hts gL_law_L_addCode rfl rfl rfl hd_L_addCode ⟨Nat.le_of_ble_eq_true rfl, Nat.le_of_ble_eq_true rfl⟩) ⟨hKL, hE⟩ hP hD rfl hS hT [0, 6, 7, 8, 9, 10, 4, 5, 1, 2, 3, 23] (by decide) rfl (fun u => by rcases u with _ | u <;> rfl) rfl hl.1 rfl (Nat.le_of_ble_eq_true rfl) dL_law_198 hcc hs6 (fun v9 u9 H locs hp hP hS hk9 => ?_)
  rcases u9 with _ | ⟨u9, r9⟩
  · obtain ⟨E9, hpx, rfl⟩ := hp
    rcases hpx with ⟨rfl, hcond⟩ | ⟨rfl, hcond⟩
    · have hP : va_P D vwCl [(h0, .inr (4, [.ref b0, .ref m0, .ref p0, .ref s0, .ref q0, .int (nI q), .int (nI sg), .int rp, .int lo, .int ea])), (b0, .inr (0, [.ref b1, .ref b2, .int (nI k)])), (b1, .inl (cI, 32, .inl T)), (b2, .inl (cI, 8, .inl (nA Lf))), (m0, .inr (1, [.ref m1, .int (nI n)])), (m1, .inl (cI, 24, .inl (nA t))), (p0, .inr (2, [.ref p1, .ref p2, .ref p3, .ref p4, .int (nI cnt)])), (p1, .inl (cI, 25, .inl (nA f))), (p2, .inl (cI, 24, .inl (nA lf))), (p3, .inl (cI, 24, .inl C)), (p4, .inl (cI, 24, .inl (nA ps))), (s0, .inr (2, [.ref s1, .ref s2, .ref s3, .ref s4, .int (nI cnts)])), (s1, .inl (cI, 25, .inl (nA fs))), (s2, .inl (cI, 24, .inl (nA lfs))), (s3, .inl (cI, 24, .inl Cs)), (s4, .inl (cI, 24, .inl (nA pss))), (q0, .inr (3, [.int (nI se), .int (nI gf), .int (nI ak), .int (nI gn)])), (y0, .inr (5, [.int (nI th), .int (nI k), .ref y1, .ref y2, .int (nI n), .ref y3, .int (nI q), .int (nI sg), .int rp, .int lo, .int ea, .ref y4, .ref y5, .int (nI go), .int (nI ak9), .int (nI gn9), .int (nI gf9)])), (y1, .inl (cI, 9, .inl K)), (y2, .inl (cI, 9, .inl (nA Lm))), (y3, .inl (cI, 24, .inl (nA t))), (y4, .inl (cI, 25, .inl (nA f9))), (y5, .inl (cI, 24, .inl C9)), (o, .inl (cL, 1, .inr (.inl fo)))] H := hP
      refine W.eq (g2 := F0 mi 201 ls [.int (cdA zIAE)]) rfl ?_
      refine z_top (y := nI 1) cdA_1 ?_
      refine lv_istore (lv' := [(5, .int (nI 1)), (0, .ref b), (1, .ref h0), (2, .ref y0), (3, .ref o), (4, .int (nI i))]) hx hb dL_law_201 hl (by decide) rfl (fun ls hl => ?_)
      refine lv_aload_n hx hb dL_law_203 rfl (lv_at hl 3 rfl) ?_
      refine lv_aload_n hx hb dL_law_204 rfl (lv_at hl 1 rfl) ?_
      refine lv_iload hx hb dL_law_205 (lv_at hl 5 rfl) ?_
      refine lv_iconst (v := nI 1) hx hb dL_law_207 ci_1 ?_
      refine z_iadd hx hb dL_law_208 ?_
      refine z_sld hx hb hX hbl hbA hS (by omega) (by omega) dL_law_209 ?_
      refine lv_aload_n hx hb dL_law_210 rfl (lv_at hl 1 rfl) ?_
      refine lv_iload hx hb dL_law_211 (lv_at hl 5 rfl) ?_
      refine lv_iconst (v := nI 2) hx hb dL_law_213 ci_2 ?_
      refine z_iadd hx hb dL_law_214 ?_
      refine z_sld hx hb hX hbl hbA hS (by omega) (by omega) dL_law_215 ?_
      refine lv_aload_n hx hb dL_law_216 rfl (lv_at hl 1 rfl) ?_
      refine lv_iload hx hb dL_law_217 (lv_at hl 5 rfl) ?_
      refine lv_iconst (v := nI 3) hx hb dL_law_219 ci_3 ?_
      refine z_iadd hx hb dL_law_220 ?_
      refine z_sld hx hb hX hbl hbA hS (by omega) (by omega) dL_law_221 ?_
      refine lv_aload_n hx hb dL_law_222 rfl (lv_at hl 1 rfl) ?_
      refine lv_iload hx hb dL_law_223 (lv_at hl 5 rfl) ?_
      refine lv_iconst (v := nI 4) hx hb dL_law_225 ci_4 ?_
      refine z_iadd hx hb dL_law_226 ?_
      refine z_sld hx hb hX hbl hbA hS (by omega) (by omega) dL_law_227 ?_
      refine z_muV (As := [.int (xs (i + 1)), .int (xs (i + 2)), .int (xs (i + 3)), .int (xs (i + 4))]) (rest := []) ⟨hx, hb, hml, hown, hts⟩ (c_X5_addCode l D cI y0 y1 y2 y3 y4 y5 th k n q sg rp lo ea go ak9 gn9 gf9 K Lm (xs (i + 1)) (xs (i + 2)) (xs (i + 3)) (xs (i + 4)) (by first | assumption | omega)) (cwV 4 hts gL_law_X5_addCode rfl rfl rfl hd_X5_addCode ⟨Nat.le_of_ble_eq_true rfl, Nat.le_of_ble_eq_true rfl⟩) ⟨hK, hE⟩ hP hD rfl hS [17, 18, 19] (by decide) rfl (fun _ => rfl) (va_recv hK hP (ci := 5) (q0 := 17) rfl rfl) rfl hl.1 rfl (Nat.le_of_ble_eq_true rfl) dL_law_228 hcc hs6 (fun v9 u9 H locs hp hP hS => ?_)
      obtain ⟨th2_228, k2_228, r_228, K2_228, Lm2_228⟩ := u9
      obtain ⟨rfl, hd_228⟩ := hp
      try dsimp only at hd_228
      have hP : va_P D vwCl [(h0, .inr (4, [.ref b0, .ref m0, .ref p0, .ref s0, .ref q0, .int (nI q), .int (nI sg), .int rp, .int lo, .int ea])), (b0, .inr (0, [.ref b1, .ref b2, .int (nI k)])), (b1, .inl (cI, 32, .inl T)), (b2, .inl (cI, 8, .inl (nA Lf))), (m0, .inr (1, [.ref m1, .int (nI n)])), (m1, .inl (cI, 24, .inl (nA t))), (p0, .inr (2, [.ref p1, .ref p2, .ref p3, .ref p4, .int (nI cnt)])), (p1, .inl (cI, 25, .inl (nA f))), (p2, .inl (cI, 24, .inl (nA lf))), (p3, .inl (cI, 24, .inl C)), (p4, .inl (cI, 24, .inl (nA ps))), (s0, .inr (2, [.ref s1, .ref s2, .ref s3, .ref s4, .int (nI cnts)])), (s1, .inl (cI, 25, .inl (nA fs))), (s2, .inl (cI, 24, .inl (nA lfs))), (s3, .inl (cI, 24, .inl Cs)), (s4, .inl (cI, 24, .inl (nA pss))), (q0, .inr (3, [.int (nI se), .int (nI gf), .int (nI ak), .int (nI gn)])), (y0, .inr (5, [.int (nI th2_228), .int (nI k2_228), .ref y1, .ref y2, .int (nI n), .ref y3, .int (nI q), .int (nI sg), .int rp, .int lo, .int ea, .ref y4, .ref y5, .int (nI go), .int (nI ak9), .int (nI gn9), .int (nI gf9)])), (y1, .inl (cI, 9, .inl K2_228)), (y2, .inl (cI, 9, .inl (nA Lm2_228))), (y3, .inl (cI, 24, .inl (nA t))), (y4, .inl (cI, 25, .inl (nA f9))), (y5, .inl (cI, 24, .inl C9)), (o, .inl (cL, 1, .inr (.inl fo)))] H := hP
      refine W.eq (g2 := F0 mi 231 ls [.int r_228]) rfl ?_
      obtain ⟨-, z1, z2, z3, z4, z5⟩ := (hd_228.resolve_left (fun z => z.1 hcond)).resolve_right (fun z => z.1 hcond)
      replace z1 := z1.symm
      subst z1
      replace z2 := z2.symm
      subst z2
      replace z3 := z3.symm
      subst z3
      replace z4 := z4.symm
      subst z4
      replace z5 := z5.symm
      subst z5
      have hP : va_P D vwCl [(h0, .inr (4, [.ref b0, .ref m0, .ref p0, .ref s0, .ref q0, .int (nI q), .int (nI sg), .int rp, .int lo, .int ea])), (b0, .inr (0, [.ref b1, .ref b2, .int (nI k)])), (b1, .inl (cI, 32, .inl T)), (b2, .inl (cI, 8, .inl (nA Lf))), (m0, .inr (1, [.ref m1, .int (nI n)])), (m1, .inl (cI, 24, .inl (nA t))), (p0, .inr (2, [.ref p1, .ref p2, .ref p3, .ref p4, .int (nI cnt)])), (p1, .inl (cI, 25, .inl (nA f))), (p2, .inl (cI, 24, .inl (nA lf))), (p3, .inl (cI, 24, .inl C)), (p4, .inl (cI, 24, .inl (nA ps))), (s0, .inr (2, [.ref s1, .ref s2, .ref s3, .ref s4, .int (nI cnts)])), (s1, .inl (cI, 25, .inl (nA fs))), (s2, .inl (cI, 24, .inl (nA lfs))), (s3, .inl (cI, 24, .inl Cs)), (s4, .inl (cI, 24, .inl (nA pss))), (q0, .inr (3, [.int (nI se), .int (nI gf), .int (nI ak), .int (nI gn)])), (y0, .inr (5, [.int (nI 1), .int (nI k), .ref y1, .ref y2, .int (nI n), .ref y3, .int (nI q), .int (nI sg), .int rp, .int lo, .int ea, .ref y4, .ref y5, .int (nI go), .int (nI ak9), .int (nI gn9), .int (nI gf9)])), (y1, .inl (cI, 9, .inl K)), (y2, .inl (cI, 9, .inl (nA Lm))), (y3, .inl (cI, 24, .inl (nA t))), (y4, .inl (cI, 25, .inl (nA f9))), (y5, .inl (cI, 24, .inl C9)), (o, .inl (cL, 1, .inr (.inl fo)))] H := hP
      refine lv_istore (lv' := [(6, .int (nI 0)), (5, .int (nI 1)), (0, .ref b), (1, .ref h0), (2, .ref y0), (3, .ref o), (4, .int (nI i))]) hx hb dL_law_231 hl (by decide) rfl (fun ls hl => ?_)
      refine lv_aload_n hx hb dL_law_233 rfl (lv_at hl 4 rfl) ?_
      refine z_roV (As := []) (rest := []) ⟨hx, hb, hml, hown, hts⟩ (c_X5_thrown l D cI y0 y1 y2 y3 y4 y5 1 k n q sg rp lo ea go ak9 gn9 gf9) (cwV 0 hts gL_law_X5_thrown rfl rfl rfl hd_X5_thrown ⟨Nat.le_of_ble_eq_true rfl, Nat.le_of_ble_eq_true rfl⟩) ⟨hK, hE⟩ (hP.sub (ws' := [(y0, .inr (5, [.int (nI 1), .int (nI k), .ref y1, .ref y2, .int (nI n), .ref y3, .int (nI q), .int (nI sg), .int rp, .int lo, .int ea, .ref y4, .ref y5, .int (nI go), .int (nI ak9), .int (nI gn9), .int (nI gf9)]))]) [17] rfl) (va_recv hK hP (ci := 5) (q0 := 17) rfl rfl) rfl hl.1 rfl (Nat.le_of_ble_eq_true rfl) dL_law_234 hcc hs6 ?_
      refine lv_iload hx hb dL_law_237 (lv_at hl 1 rfl) ?_
      refine z_icmp_eq (tgt := 244) hx hb dL_law_239 (by decide) (by omega) (by omega) (fun c_239 => ?_) (fun c_239 => ?_)
      · refine lv_iload hx hb dL_law_244 (lv_at hl 1 rfl) ?_
        refine z_if_ne (tgt := 261) hx hb dL_law_246 (by decide) (by omega) (fun c_246 => ?_) (fun c_246 => ?_)
        · refine lv_goto (tgt := 1119) hx hb dL_law_261 (by decide) ?_
          refine W.widen (k := cells + 1) (n := slots + 18) (by omega) (by omega) ?_
          exact kk H locs ls ⟨q, sg, rp, lo, ea, T, Lf, k, t, n, f, lf, C, ps, cnt, fs, lfs, Cs, pss, cnts, se, gf, ak, gn, 1, K, Lm, f9, C9, go, ak9, gn9, gf9, fo, hP, (by omega), (by omega), ht, hq, (by omega), hPC, hCR, hKD⟩ hS (lv_sub hl [2, 3, 4, 5, 6] rfl)
        · exact absurd c_246 (by decide)
      · exact absurd c_239 (by decide)
    · have hP : va_P D vwCl [(h0, .inr (4, [.ref b0, .ref m0, .ref p0, .ref s0, .ref q0, .int (nI q), .int (nI sg), .int rp, .int lo, .int ea])), (b0, .inr (0, [.ref b1, .ref b2, .int (nI k)])), (b1, .inl (cI, 32, .inl T)), (b2, .inl (cI, 8, .inl (nA Lf))), (m0, .inr (1, [.ref m1, .int (nI n)])), (m1, .inl (cI, 24, .inl (nA t))), (p0, .inr (2, [.ref p1, .ref p2, .ref p3, .ref p4, .int (nI cnt)])), (p1, .inl (cI, 25, .inl (nA f))), (p2, .inl (cI, 24, .inl (nA lf))), (p3, .inl (cI, 24, .inl C)), (p4, .inl (cI, 24, .inl (nA ps))), (s0, .inr (2, [.ref s1, .ref s2, .ref s3, .ref s4, .int (nI cnts)])), (s1, .inl (cI, 25, .inl (nA fs))), (s2, .inl (cI, 24, .inl (nA lfs))), (s3, .inl (cI, 24, .inl Cs)), (s4, .inl (cI, 24, .inl (nA pss))), (q0, .inr (3, [.int (nI se), .int (nI gf), .int (nI ak), .int (nI gn)])), (y0, .inr (5, [.int (nI th), .int (nI k), .ref y1, .ref y2, .int (nI n), .ref y3, .int (nI q), .int (nI sg), .int rp, .int lo, .int ea, .ref y4, .ref y5, .int (nI go), .int (nI ak9), .int (nI gn9), .int (nI gf9)])), (y1, .inl (cI, 9, .inl K)), (y2, .inl (cI, 9, .inl (nA Lm))), (y3, .inl (cI, 24, .inl (nA t))), (y4, .inl (cI, 25, .inl (nA f9))), (y5, .inl (cI, 24, .inl C9)), (o, .inl (cL, 1, .inr (.inl fo)))] H := hP
      refine W.eq (g2 := F0 mi 201 ls [.int (cdA zISE)]) rfl ?_
      refine z_top (y := nI 2) cdA_2 ?_
      refine lv_istore (lv' := [(5, .int (nI 2)), (0, .ref b), (1, .ref h0), (2, .ref y0), (3, .ref o), (4, .int (nI i))]) hx hb dL_law_201 hl (by decide) rfl (fun ls hl => ?_)
      refine lv_aload_n hx hb dL_law_203 rfl (lv_at hl 3 rfl) ?_
      refine lv_aload_n hx hb dL_law_204 rfl (lv_at hl 1 rfl) ?_
      refine lv_iload hx hb dL_law_205 (lv_at hl 5 rfl) ?_
      refine lv_iconst (v := nI 1) hx hb dL_law_207 ci_1 ?_
      refine z_iadd hx hb dL_law_208 ?_
      refine z_sld hx hb hX hbl hbA hS (by omega) (by omega) dL_law_209 ?_
      refine lv_aload_n hx hb dL_law_210 rfl (lv_at hl 1 rfl) ?_
      refine lv_iload hx hb dL_law_211 (lv_at hl 5 rfl) ?_
      refine lv_iconst (v := nI 2) hx hb dL_law_213 ci_2 ?_
      refine z_iadd hx hb dL_law_214 ?_
      refine z_sld hx hb hX hbl hbA hS (by omega) (by omega) dL_law_215 ?_
      refine lv_aload_n hx hb dL_law_216 rfl (lv_at hl 1 rfl) ?_
      refine lv_iload hx hb dL_law_217 (lv_at hl 5 rfl) ?_
      refine lv_iconst (v := nI 3) hx hb dL_law_219 ci_3 ?_
      refine z_iadd hx hb dL_law_220 ?_
      refine z_sld hx hb hX hbl hbA hS (by omega) (by omega) dL_law_221 ?_
      refine lv_aload_n hx hb dL_law_222 rfl (lv_at hl 1 rfl) ?_
      refine lv_iload hx hb dL_law_223 (lv_at hl 5 rfl) ?_
      refine lv_iconst (v := nI 4) hx hb dL_law_225 ci_4 ?_
      refine z_iadd hx hb dL_law_226 ?_
      refine z_sld hx hb hX hbl hbA hS (by omega) (by omega) dL_law_227 ?_
      refine z_muV (As := [.int (xs (i + 1)), .int (xs (i + 2)), .int (xs (i + 3)), .int (xs (i + 4))]) (rest := []) ⟨hx, hb, hml, hown, hts⟩ (c_X5_addCode l D cI y0 y1 y2 y3 y4 y5 th k n q sg rp lo ea go ak9 gn9 gf9 K Lm (xs (i + 1)) (xs (i + 2)) (xs (i + 3)) (xs (i + 4)) (by first | assumption | omega)) (cwV 4 hts gL_law_X5_addCode rfl rfl rfl hd_X5_addCode ⟨Nat.le_of_ble_eq_true rfl, Nat.le_of_ble_eq_true rfl⟩) ⟨hK, hE⟩ hP hD rfl hS [17, 18, 19] (by decide) rfl (fun _ => rfl) (va_recv hK hP (ci := 5) (q0 := 17) rfl rfl) rfl hl.1 rfl (Nat.le_of_ble_eq_true rfl) dL_law_228 hcc hs6 (fun v9 u9 H locs hp hP hS => ?_)
      obtain ⟨th2_228, k2_228, r_228, K2_228, Lm2_228⟩ := u9
      obtain ⟨rfl, hd_228⟩ := hp
      try dsimp only at hd_228
      have hP : va_P D vwCl [(h0, .inr (4, [.ref b0, .ref m0, .ref p0, .ref s0, .ref q0, .int (nI q), .int (nI sg), .int rp, .int lo, .int ea])), (b0, .inr (0, [.ref b1, .ref b2, .int (nI k)])), (b1, .inl (cI, 32, .inl T)), (b2, .inl (cI, 8, .inl (nA Lf))), (m0, .inr (1, [.ref m1, .int (nI n)])), (m1, .inl (cI, 24, .inl (nA t))), (p0, .inr (2, [.ref p1, .ref p2, .ref p3, .ref p4, .int (nI cnt)])), (p1, .inl (cI, 25, .inl (nA f))), (p2, .inl (cI, 24, .inl (nA lf))), (p3, .inl (cI, 24, .inl C)), (p4, .inl (cI, 24, .inl (nA ps))), (s0, .inr (2, [.ref s1, .ref s2, .ref s3, .ref s4, .int (nI cnts)])), (s1, .inl (cI, 25, .inl (nA fs))), (s2, .inl (cI, 24, .inl (nA lfs))), (s3, .inl (cI, 24, .inl Cs)), (s4, .inl (cI, 24, .inl (nA pss))), (q0, .inr (3, [.int (nI se), .int (nI gf), .int (nI ak), .int (nI gn)])), (y0, .inr (5, [.int (nI th2_228), .int (nI k2_228), .ref y1, .ref y2, .int (nI n), .ref y3, .int (nI q), .int (nI sg), .int rp, .int lo, .int ea, .ref y4, .ref y5, .int (nI go), .int (nI ak9), .int (nI gn9), .int (nI gf9)])), (y1, .inl (cI, 9, .inl K2_228)), (y2, .inl (cI, 9, .inl (nA Lm2_228))), (y3, .inl (cI, 24, .inl (nA t))), (y4, .inl (cI, 25, .inl (nA f9))), (y5, .inl (cI, 24, .inl C9)), (o, .inl (cL, 1, .inr (.inl fo)))] H := hP
      refine W.eq (g2 := F0 mi 231 ls [.int r_228]) rfl ?_
      obtain ⟨-, -, z1, z2, z3, z4, z5⟩ := (hd_228.resolve_left (fun z => z.2.1 ((dup_iff hCR hk hcond.1).mp hcond.2))).resolve_left (fun z => hcond.1 z.1)
      replace z1 := z1.symm
      subst z1
      replace z2 := z2.symm
      subst z2
      replace z3 := z3.symm
      subst z3
      replace z4 := z4.symm
      subst z4
      replace z5 := z5.symm
      subst z5
      have hP : va_P D vwCl [(h0, .inr (4, [.ref b0, .ref m0, .ref p0, .ref s0, .ref q0, .int (nI q), .int (nI sg), .int rp, .int lo, .int ea])), (b0, .inr (0, [.ref b1, .ref b2, .int (nI k)])), (b1, .inl (cI, 32, .inl T)), (b2, .inl (cI, 8, .inl (nA Lf))), (m0, .inr (1, [.ref m1, .int (nI n)])), (m1, .inl (cI, 24, .inl (nA t))), (p0, .inr (2, [.ref p1, .ref p2, .ref p3, .ref p4, .int (nI cnt)])), (p1, .inl (cI, 25, .inl (nA f))), (p2, .inl (cI, 24, .inl (nA lf))), (p3, .inl (cI, 24, .inl C)), (p4, .inl (cI, 24, .inl (nA ps))), (s0, .inr (2, [.ref s1, .ref s2, .ref s3, .ref s4, .int (nI cnts)])), (s1, .inl (cI, 25, .inl (nA fs))), (s2, .inl (cI, 24, .inl (nA lfs))), (s3, .inl (cI, 24, .inl Cs)), (s4, .inl (cI, 24, .inl (nA pss))), (q0, .inr (3, [.int (nI se), .int (nI gf), .int (nI ak), .int (nI gn)])), (y0, .inr (5, [.int (nI 2), .int (nI k), .ref y1, .ref y2, .int (nI n), .ref y3, .int (nI q), .int (nI sg), .int rp, .int lo, .int ea, .ref y4, .ref y5, .int (nI go), .int (nI ak9), .int (nI gn9), .int (nI gf9)])), (y1, .inl (cI, 9, .inl K)), (y2, .inl (cI, 9, .inl (nA Lm))), (y3, .inl (cI, 24, .inl (nA t))), (y4, .inl (cI, 25, .inl (nA f9))), (y5, .inl (cI, 24, .inl C9)), (o, .inl (cL, 1, .inr (.inl fo)))] H := hP
      refine lv_istore (lv' := [(6, .int (nI 0)), (5, .int (nI 2)), (0, .ref b), (1, .ref h0), (2, .ref y0), (3, .ref o), (4, .int (nI i))]) hx hb dL_law_231 hl (by decide) rfl (fun ls hl => ?_)
      refine lv_aload_n hx hb dL_law_233 rfl (lv_at hl 4 rfl) ?_
      refine z_roV (As := []) (rest := []) ⟨hx, hb, hml, hown, hts⟩ (c_X5_thrown l D cI y0 y1 y2 y3 y4 y5 2 k n q sg rp lo ea go ak9 gn9 gf9) (cwV 0 hts gL_law_X5_thrown rfl rfl rfl hd_X5_thrown ⟨Nat.le_of_ble_eq_true rfl, Nat.le_of_ble_eq_true rfl⟩) ⟨hK, hE⟩ (hP.sub (ws' := [(y0, .inr (5, [.int (nI 2), .int (nI k), .ref y1, .ref y2, .int (nI n), .ref y3, .int (nI q), .int (nI sg), .int rp, .int lo, .int ea, .ref y4, .ref y5, .int (nI go), .int (nI ak9), .int (nI gn9), .int (nI gf9)]))]) [17] rfl) (va_recv hK hP (ci := 5) (q0 := 17) rfl rfl) rfl hl.1 rfl (Nat.le_of_ble_eq_true rfl) dL_law_234 hcc hs6 ?_
      refine lv_iload hx hb dL_law_237 (lv_at hl 1 rfl) ?_
      refine z_icmp_eq (tgt := 244) hx hb dL_law_239 (by decide) (by omega) (by omega) (fun c_239 => ?_) (fun c_239 => ?_)
      · refine lv_iload hx hb dL_law_244 (lv_at hl 1 rfl) ?_
        refine z_if_ne (tgt := 261) hx hb dL_law_246 (by decide) (by omega) (fun c_246 => ?_) (fun c_246 => ?_)
        · refine lv_goto (tgt := 1119) hx hb dL_law_261 (by decide) ?_
          refine W.widen (k := cells + 1) (n := slots + 18) (by omega) (by omega) ?_
          exact kk H locs ls ⟨q, sg, rp, lo, ea, T, Lf, k, t, n, f, lf, C, ps, cnt, fs, lfs, Cs, pss, cnts, se, gf, ak, gn, 2, K, Lm, f9, C9, go, ak9, gn9, gf9, fo, hP, (by omega), (by omega), ht, hq, (by omega), hPC, hCR, hKD⟩ hS (lv_sub hl [2, 3, 4, 5, 6] rfl)
        · exact absurd c_246 (by decide)
      · exact absurd c_239 (by decide)
  · obtain ⟨f2_198, lf2_198, C2_198, ps2_198, cnt2_198⟩ := u9
    obtain ⟨rfl, hr9, hnb_198, hnd_198, hpart_198⟩ := hp
    try dsimp only at hr9
    have hr8 := (Value.int.inj (Option.some.inj hr9)).symm
    subst hr8
    try dsimp only at hnb_198 hnd_198 hpart_198
    have hP : va_P D vwCl [(h0, .inr (4, [.ref b0, .ref m0, .ref p0, .ref s0, .ref q0, .int (nI q), .int (nI sg), .int rp, .int lo, .int ea])), (b0, .inr (0, [.ref b1, .ref b2, .int (nI (k + 1))])), (b1, .inl (cI, 32, .inl (acT T k (xs (i + 1)) (xs (i + 2)) (xs (i + 3)) (xs (i + 4))))), (b2, .inl (cI, 8, .inl (nA (updN Lf k (clen (xs (i + 3)) (xs (i + 4))))))), (m0, .inr (1, [.ref m1, .int (nI n)])), (m1, .inl (cI, 24, .inl (nA t))), (p0, .inr (2, [.ref p1, .ref p2, .ref p3, .ref p4, .int (nI cnt2_198)])), (p1, .inl (cI, 25, .inl (nA f2_198))), (p2, .inl (cI, 24, .inl (nA lf2_198))), (p3, .inl (cI, 24, .inl C2_198)), (p4, .inl (cI, 24, .inl (nA ps2_198))), (s0, .inr (2, [.ref s1, .ref s2, .ref s3, .ref s4, .int (nI cnts)])), (s1, .inl (cI, 25, .inl (nA fs))), (s2, .inl (cI, 24, .inl (nA lfs))), (s3, .inl (cI, 24, .inl Cs)), (s4, .inl (cI, 24, .inl (nA pss))), (q0, .inr (3, [.int (nI se), .int (nI gf), .int (nI ak), .int (nI gn)])), (y0, .inr (5, [.int (nI th), .int (nI k), .ref y1, .ref y2, .int (nI n), .ref y3, .int (nI q), .int (nI sg), .int rp, .int lo, .int ea, .ref y4, .ref y5, .int (nI go), .int (nI ak9), .int (nI gn9), .int (nI gf9)])), (y1, .inl (cI, 9, .inl K)), (y2, .inl (cI, 9, .inl (nA Lm))), (y3, .inl (cI, 24, .inl (nA t))), (y4, .inl (cI, 25, .inl (nA f9))), (y5, .inl (cI, 24, .inl C9)), (o, .inl (cL, 1, .inr (.inl (vp_updL fo 0 ((nI k).toInt64)))))] H := hP
    refine W.eq (g2 := F0 mi 201 ls [.int (nI 0)]) rfl ?_
    refine lv_istore (lv' := [(5, .int (nI 0)), (0, .ref b), (1, .ref h0), (2, .ref y0), (3, .ref o), (4, .int (nI i))]) hx hb dL_law_201 hl (by decide) rfl (fun ls hl => ?_)
    refine lv_aload_n hx hb dL_law_203 rfl (lv_at hl 3 rfl) ?_
    refine lv_aload_n hx hb dL_law_204 rfl (lv_at hl 1 rfl) ?_
    refine lv_iload hx hb dL_law_205 (lv_at hl 5 rfl) ?_
    refine lv_iconst (v := nI 1) hx hb dL_law_207 ci_1 ?_
    refine z_iadd hx hb dL_law_208 ?_
    refine z_sld hx hb hX hbl hbA hS (by omega) (by omega) dL_law_209 ?_
    refine lv_aload_n hx hb dL_law_210 rfl (lv_at hl 1 rfl) ?_
    refine lv_iload hx hb dL_law_211 (lv_at hl 5 rfl) ?_
    refine lv_iconst (v := nI 2) hx hb dL_law_213 ci_2 ?_
    refine z_iadd hx hb dL_law_214 ?_
    refine z_sld hx hb hX hbl hbA hS (by omega) (by omega) dL_law_215 ?_
    refine lv_aload_n hx hb dL_law_216 rfl (lv_at hl 1 rfl) ?_
    refine lv_iload hx hb dL_law_217 (lv_at hl 5 rfl) ?_
    refine lv_iconst (v := nI 3) hx hb dL_law_219 ci_3 ?_
    refine z_iadd hx hb dL_law_220 ?_
    refine z_sld hx hb hX hbl hbA hS (by omega) (by omega) dL_law_221 ?_
    refine lv_aload_n hx hb dL_law_222 rfl (lv_at hl 1 rfl) ?_
    refine lv_iload hx hb dL_law_223 (lv_at hl 5 rfl) ?_
    refine lv_iconst (v := nI 4) hx hb dL_law_225 ci_4 ?_
    refine z_iadd hx hb dL_law_226 ?_
    refine z_sld hx hb hX hbl hbA hS (by omega) (by omega) dL_law_227 ?_
    refine z_muV (As := [.int (xs (i + 1)), .int (xs (i + 2)), .int (xs (i + 3)), .int (xs (i + 4))]) (rest := []) ⟨hx, hb, hml, hown, hts⟩ (c_X5_addCode l D cI y0 y1 y2 y3 y4 y5 th k n q sg rp lo ea go ak9 gn9 gf9 K Lm (xs (i + 1)) (xs (i + 2)) (xs (i + 3)) (xs (i + 4)) (by first | assumption | omega)) (cwV 4 hts gL_law_X5_addCode rfl rfl rfl hd_X5_addCode ⟨Nat.le_of_ble_eq_true rfl, Nat.le_of_ble_eq_true rfl⟩) ⟨hK, hE⟩ hP hD rfl hS [17, 18, 19] (by decide) rfl (fun _ => rfl) (va_recv hK hP (ci := 5) (q0 := 17) rfl rfl) rfl hl.1 rfl (Nat.le_of_ble_eq_true rfl) dL_law_228 hcc hs6 (fun v9 u9 H locs hp hP hS => ?_)
    obtain ⟨th2_228, k2_228, r_228, K2_228, Lm2_228⟩ := u9
    obtain ⟨rfl, hd_228⟩ := hp
    try dsimp only at hd_228
    have hP : va_P D vwCl [(h0, .inr (4, [.ref b0, .ref m0, .ref p0, .ref s0, .ref q0, .int (nI q), .int (nI sg), .int rp, .int lo, .int ea])), (b0, .inr (0, [.ref b1, .ref b2, .int (nI (k + 1))])), (b1, .inl (cI, 32, .inl (acT T k (xs (i + 1)) (xs (i + 2)) (xs (i + 3)) (xs (i + 4))))), (b2, .inl (cI, 8, .inl (nA (updN Lf k (clen (xs (i + 3)) (xs (i + 4))))))), (m0, .inr (1, [.ref m1, .int (nI n)])), (m1, .inl (cI, 24, .inl (nA t))), (p0, .inr (2, [.ref p1, .ref p2, .ref p3, .ref p4, .int (nI cnt2_198)])), (p1, .inl (cI, 25, .inl (nA f2_198))), (p2, .inl (cI, 24, .inl (nA lf2_198))), (p3, .inl (cI, 24, .inl C2_198)), (p4, .inl (cI, 24, .inl (nA ps2_198))), (s0, .inr (2, [.ref s1, .ref s2, .ref s3, .ref s4, .int (nI cnts)])), (s1, .inl (cI, 25, .inl (nA fs))), (s2, .inl (cI, 24, .inl (nA lfs))), (s3, .inl (cI, 24, .inl Cs)), (s4, .inl (cI, 24, .inl (nA pss))), (q0, .inr (3, [.int (nI se), .int (nI gf), .int (nI ak), .int (nI gn)])), (y0, .inr (5, [.int (nI th2_228), .int (nI k2_228), .ref y1, .ref y2, .int (nI n), .ref y3, .int (nI q), .int (nI sg), .int rp, .int lo, .int ea, .ref y4, .ref y5, .int (nI go), .int (nI ak9), .int (nI gn9), .int (nI gf9)])), (y1, .inl (cI, 9, .inl K2_228)), (y2, .inl (cI, 9, .inl (nA Lm2_228))), (y3, .inl (cI, 24, .inl (nA t))), (y4, .inl (cI, 25, .inl (nA f9))), (y5, .inl (cI, 24, .inl C9)), (o, .inl (cL, 1, .inr (.inl (vp_updL fo 0 ((nI k).toInt64)))))] H := hP
    refine W.eq (g2 := F0 mi 231 ls [.int r_228]) rfl ?_
    obtain ⟨-, hdm, z1, z2, z3, z4, z5⟩ := hd_228.resolve_right (fun z => z.elim (fun z => hnb_198 z.1) (fun z => hnd_198 ((dup_iff hCR hk hnb_198).mpr z.2.1)))
    replace z1 := z1.symm
    subst z1
    replace z2 := z2.symm
    subst z2
    replace z3 := z3.symm
    subst z3
    replace z4 := z4.symm
    subst z4
    replace z5 := z5.symm
    subst z5
    have hk8 : ¬ 8 ≤ k := fun z => hnd_198 (Or.inl z)
    have hP : va_P D vwCl [(h0, .inr (4, [.ref b0, .ref m0, .ref p0, .ref s0, .ref q0, .int (nI q), .int (nI sg), .int rp, .int lo, .int ea])), (b0, .inr (0, [.ref b1, .ref b2, .int (nI (k + 1))])), (b1, .inl (cI, 32, .inl (acT T k (xs (i + 1)) (xs (i + 2)) (xs (i + 3)) (xs (i + 4))))), (b2, .inl (cI, 8, .inl (nA (updN Lf k (clen (xs (i + 3)) (xs (i + 4))))))), (m0, .inr (1, [.ref m1, .int (nI n)])), (m1, .inl (cI, 24, .inl (nA t))), (p0, .inr (2, [.ref p1, .ref p2, .ref p3, .ref p4, .int (nI cnt2_198)])), (p1, .inl (cI, 25, .inl (nA f2_198))), (p2, .inl (cI, 24, .inl (nA lf2_198))), (p3, .inl (cI, 24, .inl C2_198)), (p4, .inl (cI, 24, .inl (nA ps2_198))), (s0, .inr (2, [.ref s1, .ref s2, .ref s3, .ref s4, .int (nI cnts)])), (s1, .inl (cI, 25, .inl (nA fs))), (s2, .inl (cI, 24, .inl (nA lfs))), (s3, .inl (cI, 24, .inl Cs)), (s4, .inl (cI, 24, .inl (nA pss))), (q0, .inr (3, [.int (nI se), .int (nI gf), .int (nI ak), .int (nI gn)])), (y0, .inr (5, [.int (nI 0), .int (nI (k + 1)), .ref y1, .ref y2, .int (nI n), .ref y3, .int (nI q), .int (nI sg), .int rp, .int lo, .int ea, .ref y4, .ref y5, .int (nI go), .int (nI ak9), .int (nI gn9), .int (nI gf9)])), (y1, .inl (cI, 9, .inl (upd K k (acK (xs (i + 1)) (xs (i + 2)) (xs (i + 3)) (xs (i + 4)))))), (y2, .inl (cI, 9, .inl (nA (updN Lm k (clen (xs (i + 3)) (xs (i + 4))))))), (y3, .inl (cI, 24, .inl (nA t))), (y4, .inl (cI, 25, .inl (nA f9))), (y5, .inl (cI, 24, .inl C9)), (o, .inl (cL, 1, .inr (.inl (vp_updL fo 0 ((nI k).toInt64)))))] H := hP
    refine lv_istore (lv' := [(6, .int (nI k)), (5, .int (nI 0)), (0, .ref b), (1, .ref h0), (2, .ref y0), (3, .ref o), (4, .int (nI i))]) hx hb dL_law_231 hl (by decide) rfl (fun ls hl => ?_)
    refine lv_aload_n hx hb dL_law_233 rfl (lv_at hl 4 rfl) ?_
    refine z_roV (As := []) (rest := []) ⟨hx, hb, hml, hown, hts⟩ (c_X5_thrown l D cI y0 y1 y2 y3 y4 y5 0 (k + 1) n q sg rp lo ea go ak9 gn9 gf9) (cwV 0 hts gL_law_X5_thrown rfl rfl rfl hd_X5_thrown ⟨Nat.le_of_ble_eq_true rfl, Nat.le_of_ble_eq_true rfl⟩) ⟨hK, hE⟩ (hP.sub (ws' := [(y0, .inr (5, [.int (nI 0), .int (nI (k + 1)), .ref y1, .ref y2, .int (nI n), .ref y3, .int (nI q), .int (nI sg), .int rp, .int lo, .int ea, .ref y4, .ref y5, .int (nI go), .int (nI ak9), .int (nI gn9), .int (nI gf9)]))]) [17] rfl) (va_recv hK hP (ci := 5) (q0 := 17) rfl rfl) rfl hl.1 rfl (Nat.le_of_ble_eq_true rfl) dL_law_234 hcc hs6 ?_
    refine lv_iload hx hb dL_law_237 (lv_at hl 1 rfl) ?_
    refine z_icmp_eq (tgt := 244) hx hb dL_law_239 (by decide) (by omega) (by omega) (fun c_239 => ?_) (fun c_239 => ?_)
    · refine lv_iload hx hb dL_law_244 (lv_at hl 1 rfl) ?_
      refine z_if_ne (tgt := 261) hx hb dL_law_246 (by decide) (by omega) (fun c_246 => ?_) (fun c_246 => ?_)
      · exact absurd c_246 (by decide)
      · refine lv_aload_n hx hb dL_law_249 rfl (lv_at hl 5 rfl) ?_
        refine lv_iconst (v := nI 0) hx hb dL_law_250 ci_0 ?_
        refine z_lald0 hx hb hKL hP 23 rfl dL_law_251 ?_
        refine lv_iload hx hb dL_law_252 (lv_at hl 0 rfl) ?_
        refine lv_i2l hx hb dL_law_254 rfl ?_
        refine z_lcmpS hx hb (vp0.trans (congrArg Int32.toInt64 (rfl))) dL_law_255 ?_
        refine z_if_eq (tgt := 261) hx hb dL_law_256 (by decide) (by omega) (fun c_256 => ?_) (fun c_256 => ?_)
        · refine lv_goto (tgt := 1119) hx hb dL_law_261 (by decide) ?_
          refine W.widen (k := cells + 1) (n := slots + 18) (by omega) (by omega) ?_
          exact kk H locs ls ⟨q, sg, rp, lo, ea, (acT T k (xs (i + 1)) (xs (i + 2)) (xs (i + 3)) (xs (i + 4))), (updN Lf k (clen (xs (i + 3)) (xs (i + 4)))), k + 1, t, n, f2_198, lf2_198, C2_198, ps2_198, cnt2_198, fs, lfs, Cs, pss, cnts, se, gf, ak, gn, 0, (upd K k (acK (xs (i + 1)) (xs (i + 2)) (xs (i + 3)) (xs (i + 4)))), (updN Lm k (clen (xs (i + 3)) (xs (i + 4)))), f9, C9, go, ak9, gn9, gf9, (vp_updL fo 0 ((nI k).toInt64)), hP, (by omega), (by omega), ht, hq, (by omega), hpart_198, cr_add hCR hnb_198, kd_add hKD hdm⟩ hS (lv_sub hl [2, 3, 4, 5, 6] rfl)
        · exact absurd c_256 (by decide)
    · exact absurd c_239 (by decide)
set_option maxHeartbeats 4000000 in
set_option maxRecDepth 100000 in
theorem arm_dropCode {pg : Program} {l : Launch} {ev : Env} {sv : State} {mi : MethodId} {ag : Array Value} {bl : List Frame} {mt : Method} {cd : Code} {H : Heap} {locs : List Loc} {cells slots : Nat} {Q : State → Prop} {ls : Array Slot} {D : va_G} {cI cL : ClassId} {A : Nat → Prop} {H0 : Heap} {b L : Nat} {xs : Nat → Int32} {h0 b0 b1 b2 m0 m1 p0 p1 p2 p3 p4 s0 s1 s2 s3 s4 q0 y0 y1 y2 y3 y4 y5 o sgB i : Nat} (hCx : LCx pg l sv mi ag cd D cI cL A H0 b L xs [h0, b0, b1, b2, m0, m1, p0, p1, p2, p3, p4, s0, s1, s2, s3, s4, q0, y0, y1, y2, y3, y4, y5, o]) (hI : LInv D cI cL h0 b0 b1 b2 m0 m1 p0 p1 p2 p3 p4 s0 s1 s2 s3 s4 q0 y0 y1 y2 y3 y4 y5 o sgB H) (hS : va_S A H0 H locs) (hl : lv_has ls 9 [(0, .ref b), (1, .ref h0), (2, .ref y0), (3, .ref o), (4, .int (nI i))]) (hi : i + 5 ≤ L) (hsB : sgB ≤ 59000) (hcc : cells + 1 ≤ 601024) (hss : slots + 18 ≤ 7293034)
    (kk : ∀ (H1 : Heap) (locs1 : List Loc) (ls1 : Array Slot), LInv D cI cL h0 b0 b1 b2 m0 m1 p0 p1 p2 p3 p4 s0 s1 s2 s3 s4 q0 y0 y1 y2 y3 y4 y5 o (sgB + 96) H1 → va_S A H0 H1 locs1 → lv_has ls1 9 [(0, .ref b), (1, .ref h0), (2, .ref y0), (3, .ref o), (4, .int (nI i))] → W pg l ev room_1 sv mi ag bl mt cd H1 locs1 (cells + 1) (slots + 18) Q (F0 mi 1119 ls1 [])) : W pg l ev room_1 sv mi ag bl mt cd H locs cells slots Q (F0 mi 264 ls []) := by
  obtain ⟨hx, hb, hml, hts, hown, hKL, hE, hlt, hX, hbl, hbA, hT0, hL9, hD, hA⟩ := hCx
  obtain ⟨q, sg, rp, lo, ea, T, Lf, k, t, n, f, lf, C, ps, cnt, fs, lfs, Cs, pss, cnts, se, gf, ak, gn, th, K, Lm, f9, C9, go, ak9, gn9, gf9, fo, hP, hk, hn, ht, hq, hsg0, hPC, hCR, hKD⟩ := hI
  have hP : va_P D vwCl [(h0, .inr (4, [.ref b0, .ref m0, .ref p0, .ref s0, .ref q0, .int (nI q), .int (nI sg), .int rp, .int lo, .int ea])), (b0, .inr (0, [.ref b1, .ref b2, .int (nI k)])), (b1, .inl (cI, 32, .inl T)), (b2, .inl (cI, 8, .inl (nA Lf))), (m0, .inr (1, [.ref m1, .int (nI n)])), (m1, .inl (cI, 24, .inl (nA t))), (p0, .inr (2, [.ref p1, .ref p2, .ref p3, .ref p4, .int (nI cnt)])), (p1, .inl (cI, 25, .inl (nA f))), (p2, .inl (cI, 24, .inl (nA lf))), (p3, .inl (cI, 24, .inl C)), (p4, .inl (cI, 24, .inl (nA ps))), (s0, .inr (2, [.ref s1, .ref s2, .ref s3, .ref s4, .int (nI cnts)])), (s1, .inl (cI, 25, .inl (nA fs))), (s2, .inl (cI, 24, .inl (nA lfs))), (s3, .inl (cI, 24, .inl Cs)), (s4, .inl (cI, 24, .inl (nA pss))), (q0, .inr (3, [.int (nI se), .int (nI gf), .int (nI ak), .int (nI gn)])), (y0, .inr (5, [.int (nI th), .int (nI k), .ref y1, .ref y2, .int (nI n), .ref y3, .int (nI q), .int (nI sg), .int rp, .int lo, .int ea, .ref y4, .ref y5, .int (nI go), .int (nI ak9), .int (nI gn9), .int (nI gf9)])), (y1, .inl (cI, 9, .inl K)), (y2, .inl (cI, 9, .inl (nA Lm))), (y3, .inl (cI, 24, .inl (nA t))), (y4, .inl (cI, 25, .inl (nA f9))), (y5, .inl (cI, 24, .inl C9)), (o, .inl (cL, 1, .inr (.inl fo)))] H := hP
  have hK := hKL.sub (tys' := [(cI, .int)]) [0] rfl
  have hT := zT.kept hT0 (fun a h1 h2 => hS.2.1 a h1 h2)
  have hL := cr_L hCR
  have hLk := cr_Lm hCR
  have hKk := cr_K hCR
  have hsg : sg ≤ 60000 := by omega
  have hst : ∀ g, g < cnt → ps g < n := fun g hg => by rw [(hPC.2.1 g hg).1]; exact (hPC.2.1 g hg).2
  have hcnt : cnt ≤ 24 := Nat.le_trans hPC.2.2.2 hn
  have hps : ∀ j, j < cnt → ps j < 24 := fun j hj => Nat.lt_of_lt_of_le (hst j hj) hn
  have hc0 : cells ≤ room_1.cells := Nat.le_trans (Nat.le_succ _) hcc
  have hs0 : slots ≤ room_1.slots := Nat.le_trans (Nat.le_add_right _ _) hss
  have hs6 : slots + 6 ≤ room_1.slots := Nat.le_trans (Nat.add_le_add_left (by decide) _) hss
  have hg9 := cr_g ht hCR hKD hPC
  refine lv_aload_n hx hb dL_law_264 rfl (lv_at hl 1 rfl) ?_
  refine lv_aload_n hx hb dL_law_265 rfl (lv_at hl 0 rfl) ?_
  refine lv_iload hx hb dL_law_266 (lv_at hl 4 rfl) ?_
  refine lv_iconst (v := nI 1) hx hb dL_law_268 ci_1 ?_
  refine z_iadd hx hb dL_law_269 ?_
  refine z_sld hx hb hX hbl hbA hS (by omega) (by omega) dL_law_270 ?_
  refine lv_aload_n hx hb dL_law_271 rfl (lv_at hl 3 rfl) ?_
  refine z_lxS (As := [.ref h0, .int (xs (i + 1)), .ref o]) (rest := []) ⟨hx, hb, hml, hown, hts⟩ (c_L_dropCode l D cI cL o fo h0 b0 m0 p0 s0 q0 q sg rp lo ea p1 p2 p3 p4 f lf C ps cnt m1 t n b1 b2 T Lf k (xs (i + 1)) (by first | assumption | omega) (by first | assumption | omega) (by first | assumption | omega) hlt) (vx_cwSW 3 hts gL_law_L_dropCode rfl rfl rfl hd_L_dropCode ⟨Nat.le_of_ble_eq_true rfl, Nat.le_of_ble_eq_true rfl⟩) ⟨hKL, hE⟩ hP hD rfl hS hT [0, 6, 7, 8, 9, 10, 4, 5, 1, 2, 3, 23] (by decide) rfl (fun u => by rcases u with _ | u <;> rfl) rfl hl.1 rfl (Nat.le_of_ble_eq_true rfl) dL_law_272 hcc hs6 (fun v9 u9 H locs hp hP hS hk9 => ?_)
  rcases u9 with _ | ⟨u9, r9⟩
  · obtain ⟨E9, ⟨rfl, hcond⟩, rfl⟩ := hp
    have hP : va_P D vwCl [(h0, .inr (4, [.ref b0, .ref m0, .ref p0, .ref s0, .ref q0, .int (nI q), .int (nI sg), .int rp, .int lo, .int ea])), (b0, .inr (0, [.ref b1, .ref b2, .int (nI k)])), (b1, .inl (cI, 32, .inl T)), (b2, .inl (cI, 8, .inl (nA Lf))), (m0, .inr (1, [.ref m1, .int (nI n)])), (m1, .inl (cI, 24, .inl (nA t))), (p0, .inr (2, [.ref p1, .ref p2, .ref p3, .ref p4, .int (nI cnt)])), (p1, .inl (cI, 25, .inl (nA f))), (p2, .inl (cI, 24, .inl (nA lf))), (p3, .inl (cI, 24, .inl C)), (p4, .inl (cI, 24, .inl (nA ps))), (s0, .inr (2, [.ref s1, .ref s2, .ref s3, .ref s4, .int (nI cnts)])), (s1, .inl (cI, 25, .inl (nA fs))), (s2, .inl (cI, 24, .inl (nA lfs))), (s3, .inl (cI, 24, .inl Cs)), (s4, .inl (cI, 24, .inl (nA pss))), (q0, .inr (3, [.int (nI se), .int (nI gf), .int (nI ak), .int (nI gn)])), (y0, .inr (5, [.int (nI th), .int (nI k), .ref y1, .ref y2, .int (nI n), .ref y3, .int (nI q), .int (nI sg), .int rp, .int lo, .int ea, .ref y4, .ref y5, .int (nI go), .int (nI ak9), .int (nI gn9), .int (nI gf9)])), (y1, .inl (cI, 9, .inl K)), (y2, .inl (cI, 9, .inl (nA Lm))), (y3, .inl (cI, 24, .inl (nA t))), (y4, .inl (cI, 25, .inl (nA f9))), (y5, .inl (cI, 24, .inl C9)), (o, .inl (cL, 1, .inr (.inl fo)))] H := hP
    refine W.eq (g2 := F0 mi 275 ls [.int (nI 1)]) rfl ?_
    refine lv_istore (lv' := [(5, .int (nI 1)), (0, .ref b), (1, .ref h0), (2, .ref y0), (3, .ref o), (4, .int (nI i))]) hx hb dL_law_275 hl (by decide) rfl (fun ls hl => ?_)
    refine lv_aload_n hx hb dL_law_277 rfl (lv_at hl 3 rfl) ?_
    refine lv_aload_n hx hb dL_law_278 rfl (lv_at hl 1 rfl) ?_
    refine lv_iload hx hb dL_law_279 (lv_at hl 5 rfl) ?_
    refine lv_iconst (v := nI 1) hx hb dL_law_281 ci_1 ?_
    refine z_iadd hx hb dL_law_282 ?_
    refine z_sld hx hb hX hbl hbA hS (by omega) (by omega) dL_law_283 ?_
    refine z_muV (As := [.int (xs (i + 1))]) (rest := []) ⟨hx, hb, hml, hown, hts⟩ (c_X5_dropCode l D cI y0 y1 y2 y3 y4 y5 th k n q sg rp lo ea go ak9 gn9 gf9 K Lm (xs (i + 1)) (by first | assumption | omega)) (cwV 1 hts gL_law_X5_dropCode rfl rfl rfl hd_X5_dropCode ⟨Nat.le_of_ble_eq_true rfl, Nat.le_of_ble_eq_true rfl⟩) ⟨hK, hE⟩ hP hD rfl hS [17, 18, 19] (by decide) rfl (fun _ => rfl) (va_recv hK hP (ci := 5) (q0 := 17) rfl rfl) rfl hl.1 rfl (Nat.le_of_ble_eq_true rfl) dL_law_284 hcc hs6 (fun v9 u9 H locs hp hP hS => ?_)
    obtain ⟨th2_284, k2_284, r_284, K2_284, Lm2_284⟩ := u9
    obtain ⟨rfl, hd_284⟩ := hp
    try dsimp only at hd_284
    have hP : va_P D vwCl [(h0, .inr (4, [.ref b0, .ref m0, .ref p0, .ref s0, .ref q0, .int (nI q), .int (nI sg), .int rp, .int lo, .int ea])), (b0, .inr (0, [.ref b1, .ref b2, .int (nI k)])), (b1, .inl (cI, 32, .inl T)), (b2, .inl (cI, 8, .inl (nA Lf))), (m0, .inr (1, [.ref m1, .int (nI n)])), (m1, .inl (cI, 24, .inl (nA t))), (p0, .inr (2, [.ref p1, .ref p2, .ref p3, .ref p4, .int (nI cnt)])), (p1, .inl (cI, 25, .inl (nA f))), (p2, .inl (cI, 24, .inl (nA lf))), (p3, .inl (cI, 24, .inl C)), (p4, .inl (cI, 24, .inl (nA ps))), (s0, .inr (2, [.ref s1, .ref s2, .ref s3, .ref s4, .int (nI cnts)])), (s1, .inl (cI, 25, .inl (nA fs))), (s2, .inl (cI, 24, .inl (nA lfs))), (s3, .inl (cI, 24, .inl Cs)), (s4, .inl (cI, 24, .inl (nA pss))), (q0, .inr (3, [.int (nI se), .int (nI gf), .int (nI ak), .int (nI gn)])), (y0, .inr (5, [.int (nI th2_284), .int (nI k2_284), .ref y1, .ref y2, .int (nI n), .ref y3, .int (nI q), .int (nI sg), .int rp, .int lo, .int ea, .ref y4, .ref y5, .int (nI go), .int (nI ak9), .int (nI gn9), .int (nI gf9)])), (y1, .inl (cI, 9, .inl K2_284)), (y2, .inl (cI, 9, .inl (nA Lm2_284))), (y3, .inl (cI, 24, .inl (nA t))), (y4, .inl (cI, 25, .inl (nA f9))), (y5, .inl (cI, 24, .inl C9)), (o, .inl (cL, 1, .inr (.inl fo)))] H := hP
    refine W.eq (g2 := F0 mi 287 ls [.int r_284]) rfl ?_
    obtain ⟨-, z1, z2, z3, z4, z5⟩ := hd_284.resolve_left (fun ⟨j9, a1, a2, _⟩ => hcond ⟨j9, a1, a2⟩)
    replace z1 := z1.symm
    subst z1
    replace z2 := z2.symm
    subst z2
    replace z3 := z3.symm
    subst z3
    replace z4 := z4.symm
    subst z4
    replace z5 := z5.symm
    subst z5
    have hP : va_P D vwCl [(h0, .inr (4, [.ref b0, .ref m0, .ref p0, .ref s0, .ref q0, .int (nI q), .int (nI sg), .int rp, .int lo, .int ea])), (b0, .inr (0, [.ref b1, .ref b2, .int (nI k)])), (b1, .inl (cI, 32, .inl T)), (b2, .inl (cI, 8, .inl (nA Lf))), (m0, .inr (1, [.ref m1, .int (nI n)])), (m1, .inl (cI, 24, .inl (nA t))), (p0, .inr (2, [.ref p1, .ref p2, .ref p3, .ref p4, .int (nI cnt)])), (p1, .inl (cI, 25, .inl (nA f))), (p2, .inl (cI, 24, .inl (nA lf))), (p3, .inl (cI, 24, .inl C)), (p4, .inl (cI, 24, .inl (nA ps))), (s0, .inr (2, [.ref s1, .ref s2, .ref s3, .ref s4, .int (nI cnts)])), (s1, .inl (cI, 25, .inl (nA fs))), (s2, .inl (cI, 24, .inl (nA lfs))), (s3, .inl (cI, 24, .inl Cs)), (s4, .inl (cI, 24, .inl (nA pss))), (q0, .inr (3, [.int (nI se), .int (nI gf), .int (nI ak), .int (nI gn)])), (y0, .inr (5, [.int (nI 1), .int (nI k), .ref y1, .ref y2, .int (nI n), .ref y3, .int (nI q), .int (nI sg), .int rp, .int lo, .int ea, .ref y4, .ref y5, .int (nI go), .int (nI ak9), .int (nI gn9), .int (nI gf9)])), (y1, .inl (cI, 9, .inl K)), (y2, .inl (cI, 9, .inl (nA Lm))), (y3, .inl (cI, 24, .inl (nA t))), (y4, .inl (cI, 25, .inl (nA f9))), (y5, .inl (cI, 24, .inl C9)), (o, .inl (cL, 1, .inr (.inl fo)))] H := hP
    refine lv_istore (lv' := [(6, .int (nI 0)), (5, .int (nI 1)), (0, .ref b), (1, .ref h0), (2, .ref y0), (3, .ref o), (4, .int (nI i))]) hx hb dL_law_287 hl (by decide) rfl (fun ls hl => ?_)
    refine lv_aload_n hx hb dL_law_289 rfl (lv_at hl 4 rfl) ?_
    refine z_roV (As := []) (rest := []) ⟨hx, hb, hml, hown, hts⟩ (c_X5_thrown l D cI y0 y1 y2 y3 y4 y5 1 k n q sg rp lo ea go ak9 gn9 gf9) (cwV 0 hts gL_law_X5_thrown rfl rfl rfl hd_X5_thrown ⟨Nat.le_of_ble_eq_true rfl, Nat.le_of_ble_eq_true rfl⟩) ⟨hK, hE⟩ (hP.sub (ws' := [(y0, .inr (5, [.int (nI 1), .int (nI k), .ref y1, .ref y2, .int (nI n), .ref y3, .int (nI q), .int (nI sg), .int rp, .int lo, .int ea, .ref y4, .ref y5, .int (nI go), .int (nI ak9), .int (nI gn9), .int (nI gf9)]))]) [17] rfl) (va_recv hK hP (ci := 5) (q0 := 17) rfl rfl) rfl hl.1 rfl (Nat.le_of_ble_eq_true rfl) dL_law_290 hcc hs6 ?_
    refine lv_iload hx hb dL_law_293 (lv_at hl 1 rfl) ?_
    refine z_icmp_eq (tgt := 300) hx hb dL_law_295 (by decide) (by omega) (by omega) (fun c_295 => ?_) (fun c_295 => ?_)
    · refine lv_iload hx hb dL_law_300 (lv_at hl 1 rfl) ?_
      refine z_if_ne (tgt := 317) hx hb dL_law_302 (by decide) (by omega) (fun c_302 => ?_) (fun c_302 => ?_)
      · refine lv_goto (tgt := 1119) hx hb dL_law_317 (by decide) ?_
        refine W.widen (k := cells + 1) (n := slots + 18) (by omega) (by omega) ?_
        exact kk H locs ls ⟨q, sg, rp, lo, ea, T, Lf, k, t, n, f, lf, C, ps, cnt, fs, lfs, Cs, pss, cnts, se, gf, ak, gn, 1, K, Lm, f9, C9, go, ak9, gn9, gf9, fo, hP, (by omega), (by omega), ht, hq, (by omega), hPC, hCR, hKD⟩ hS (lv_sub hl [2, 3, 4, 5, 6] rfl)
      · exact absurd c_302 (by decide)
    · exact absurd c_295 (by decide)
  · obtain ⟨j_272, f2_272, lf2_272, C2_272, ps2_272, cnt2_272⟩ := u9
    obtain ⟨rfl, hr9, hj_272, hpart_272⟩ := hp
    try dsimp only at hr9
    have hr8 := (Value.int.inj (Option.some.inj hr9)).symm
    subst hr8
    try dsimp only at hj_272 hpart_272
    have hP : va_P D vwCl [(h0, .inr (4, [.ref b0, .ref m0, .ref p0, .ref s0, .ref q0, .int (nI q), .int (nI sg), .int rp, .int lo, .int ea])), (b0, .inr (0, [.ref b1, .ref b2, .int (nI (k - 1))])), (b1, .inl (cI, 32, .inl (dcT T k j_272))), (b2, .inl (cI, 8, .inl (nA (dcL Lf k j_272)))), (m0, .inr (1, [.ref m1, .int (nI n)])), (m1, .inl (cI, 24, .inl (nA t))), (p0, .inr (2, [.ref p1, .ref p2, .ref p3, .ref p4, .int (nI cnt2_272)])), (p1, .inl (cI, 25, .inl (nA f2_272))), (p2, .inl (cI, 24, .inl (nA lf2_272))), (p3, .inl (cI, 24, .inl C2_272)), (p4, .inl (cI, 24, .inl (nA ps2_272))), (s0, .inr (2, [.ref s1, .ref s2, .ref s3, .ref s4, .int (nI cnts)])), (s1, .inl (cI, 25, .inl (nA fs))), (s2, .inl (cI, 24, .inl (nA lfs))), (s3, .inl (cI, 24, .inl Cs)), (s4, .inl (cI, 24, .inl (nA pss))), (q0, .inr (3, [.int (nI se), .int (nI gf), .int (nI ak), .int (nI gn)])), (y0, .inr (5, [.int (nI th), .int (nI k), .ref y1, .ref y2, .int (nI n), .ref y3, .int (nI q), .int (nI sg), .int rp, .int lo, .int ea, .ref y4, .ref y5, .int (nI go), .int (nI ak9), .int (nI gn9), .int (nI gf9)])), (y1, .inl (cI, 9, .inl K)), (y2, .inl (cI, 9, .inl (nA Lm))), (y3, .inl (cI, 24, .inl (nA t))), (y4, .inl (cI, 25, .inl (nA f9))), (y5, .inl (cI, 24, .inl C9)), (o, .inl (cL, 1, .inr (.inl (vp_updL fo 0 ((nI (Lf j_272)).toInt64)))))] H := hP
    refine W.eq (g2 := F0 mi 275 ls [.int (nI 0)]) rfl ?_
    refine lv_istore (lv' := [(5, .int (nI 0)), (0, .ref b), (1, .ref h0), (2, .ref y0), (3, .ref o), (4, .int (nI i))]) hx hb dL_law_275 hl (by decide) rfl (fun ls hl => ?_)
    refine lv_aload_n hx hb dL_law_277 rfl (lv_at hl 3 rfl) ?_
    refine lv_aload_n hx hb dL_law_278 rfl (lv_at hl 1 rfl) ?_
    refine lv_iload hx hb dL_law_279 (lv_at hl 5 rfl) ?_
    refine lv_iconst (v := nI 1) hx hb dL_law_281 ci_1 ?_
    refine z_iadd hx hb dL_law_282 ?_
    refine z_sld hx hb hX hbl hbA hS (by omega) (by omega) dL_law_283 ?_
    refine z_muV (As := [.int (xs (i + 1))]) (rest := []) ⟨hx, hb, hml, hown, hts⟩ (c_X5_dropCode l D cI y0 y1 y2 y3 y4 y5 th k n q sg rp lo ea go ak9 gn9 gf9 K Lm (xs (i + 1)) (by first | assumption | omega)) (cwV 1 hts gL_law_X5_dropCode rfl rfl rfl hd_X5_dropCode ⟨Nat.le_of_ble_eq_true rfl, Nat.le_of_ble_eq_true rfl⟩) ⟨hK, hE⟩ hP hD rfl hS [17, 18, 19] (by decide) rfl (fun _ => rfl) (va_recv hK hP (ci := 5) (q0 := 17) rfl rfl) rfl hl.1 rfl (Nat.le_of_ble_eq_true rfl) dL_law_284 hcc hs6 (fun v9 u9 H locs hp hP hS => ?_)
    obtain ⟨th2_284, k2_284, r_284, K2_284, Lm2_284⟩ := u9
    obtain ⟨rfl, hd_284⟩ := hp
    try dsimp only at hd_284
    have hP : va_P D vwCl [(h0, .inr (4, [.ref b0, .ref m0, .ref p0, .ref s0, .ref q0, .int (nI q), .int (nI sg), .int rp, .int lo, .int ea])), (b0, .inr (0, [.ref b1, .ref b2, .int (nI (k - 1))])), (b1, .inl (cI, 32, .inl (dcT T k j_272))), (b2, .inl (cI, 8, .inl (nA (dcL Lf k j_272)))), (m0, .inr (1, [.ref m1, .int (nI n)])), (m1, .inl (cI, 24, .inl (nA t))), (p0, .inr (2, [.ref p1, .ref p2, .ref p3, .ref p4, .int (nI cnt2_272)])), (p1, .inl (cI, 25, .inl (nA f2_272))), (p2, .inl (cI, 24, .inl (nA lf2_272))), (p3, .inl (cI, 24, .inl C2_272)), (p4, .inl (cI, 24, .inl (nA ps2_272))), (s0, .inr (2, [.ref s1, .ref s2, .ref s3, .ref s4, .int (nI cnts)])), (s1, .inl (cI, 25, .inl (nA fs))), (s2, .inl (cI, 24, .inl (nA lfs))), (s3, .inl (cI, 24, .inl Cs)), (s4, .inl (cI, 24, .inl (nA pss))), (q0, .inr (3, [.int (nI se), .int (nI gf), .int (nI ak), .int (nI gn)])), (y0, .inr (5, [.int (nI th2_284), .int (nI k2_284), .ref y1, .ref y2, .int (nI n), .ref y3, .int (nI q), .int (nI sg), .int rp, .int lo, .int ea, .ref y4, .ref y5, .int (nI go), .int (nI ak9), .int (nI gn9), .int (nI gf9)])), (y1, .inl (cI, 9, .inl K2_284)), (y2, .inl (cI, 9, .inl (nA Lm2_284))), (y3, .inl (cI, 24, .inl (nA t))), (y4, .inl (cI, 25, .inl (nA f9))), (y5, .inl (cI, 24, .inl C9)), (o, .inl (cL, 1, .inr (.inl (vp_updL fo 0 ((nI (Lf j_272)).toInt64)))))] H := hP
    refine W.eq (g2 := F0 mi 287 ls [.int r_284]) rfl ?_
    obtain ⟨j9, a1, a2, z1, z2, z3, hs1, hs2⟩ := hd_284.resolve_right (fun z => z.1 ⟨_, hj_272⟩)
    replace z1 := z1.symm
    subst z1
    replace z2 := z2.symm
    subst z2
    replace z3 := z3.symm
    subst z3
    have e9 : j_272 = j9 := by have e8 : nI j_272 = nI j9 := hj_272.2.symm.trans a2; have := hj_272.1; exact (nI_eq (by omega) (by omega)).mp e8
    subst e9
    have hjk := a1
    have hP : va_P D vwCl [(h0, .inr (4, [.ref b0, .ref m0, .ref p0, .ref s0, .ref q0, .int (nI q), .int (nI sg), .int rp, .int lo, .int ea])), (b0, .inr (0, [.ref b1, .ref b2, .int (nI (k - 1))])), (b1, .inl (cI, 32, .inl (dcT T k j_272))), (b2, .inl (cI, 8, .inl (nA (dcL Lf k j_272)))), (m0, .inr (1, [.ref m1, .int (nI n)])), (m1, .inl (cI, 24, .inl (nA t))), (p0, .inr (2, [.ref p1, .ref p2, .ref p3, .ref p4, .int (nI cnt2_272)])), (p1, .inl (cI, 25, .inl (nA f2_272))), (p2, .inl (cI, 24, .inl (nA lf2_272))), (p3, .inl (cI, 24, .inl C2_272)), (p4, .inl (cI, 24, .inl (nA ps2_272))), (s0, .inr (2, [.ref s1, .ref s2, .ref s3, .ref s4, .int (nI cnts)])), (s1, .inl (cI, 25, .inl (nA fs))), (s2, .inl (cI, 24, .inl (nA lfs))), (s3, .inl (cI, 24, .inl Cs)), (s4, .inl (cI, 24, .inl (nA pss))), (q0, .inr (3, [.int (nI se), .int (nI gf), .int (nI ak), .int (nI gn)])), (y0, .inr (5, [.int (nI 0), .int (nI (k - 1)), .ref y1, .ref y2, .int (nI n), .ref y3, .int (nI q), .int (nI sg), .int rp, .int lo, .int ea, .ref y4, .ref y5, .int (nI go), .int (nI ak9), .int (nI gn9), .int (nI gf9)])), (y1, .inl (cI, 9, .inl K2_284)), (y2, .inl (cI, 9, .inl (nA Lm2_284))), (y3, .inl (cI, 24, .inl (nA t))), (y4, .inl (cI, 25, .inl (nA f9))), (y5, .inl (cI, 24, .inl C9)), (o, .inl (cL, 1, .inr (.inl (vp_updL fo 0 ((nI (Lf j_272)).toInt64)))))] H := hP
    refine lv_istore (lv' := [(6, .int (nI (Lm j_272))), (5, .int (nI 0)), (0, .ref b), (1, .ref h0), (2, .ref y0), (3, .ref o), (4, .int (nI i))]) hx hb dL_law_287 hl (by decide) rfl (fun ls hl => ?_)
    refine lv_aload_n hx hb dL_law_289 rfl (lv_at hl 4 rfl) ?_
    refine z_roV (As := []) (rest := []) ⟨hx, hb, hml, hown, hts⟩ (c_X5_thrown l D cI y0 y1 y2 y3 y4 y5 0 (k - 1) n q sg rp lo ea go ak9 gn9 gf9) (cwV 0 hts gL_law_X5_thrown rfl rfl rfl hd_X5_thrown ⟨Nat.le_of_ble_eq_true rfl, Nat.le_of_ble_eq_true rfl⟩) ⟨hK, hE⟩ (hP.sub (ws' := [(y0, .inr (5, [.int (nI 0), .int (nI (k - 1)), .ref y1, .ref y2, .int (nI n), .ref y3, .int (nI q), .int (nI sg), .int rp, .int lo, .int ea, .ref y4, .ref y5, .int (nI go), .int (nI ak9), .int (nI gn9), .int (nI gf9)]))]) [17] rfl) (va_recv hK hP (ci := 5) (q0 := 17) rfl rfl) rfl hl.1 rfl (Nat.le_of_ble_eq_true rfl) dL_law_290 hcc hs6 ?_
    refine lv_iload hx hb dL_law_293 (lv_at hl 1 rfl) ?_
    refine z_icmp_eq (tgt := 300) hx hb dL_law_295 (by decide) (by omega) (by omega) (fun c_295 => ?_) (fun c_295 => ?_)
    · refine lv_iload hx hb dL_law_300 (lv_at hl 1 rfl) ?_
      refine z_if_ne (tgt := 317) hx hb dL_law_302 (by decide) (by omega) (fun c_302 => ?_) (fun c_302 => ?_)
      · exact absurd c_302 (by decide)
      · refine lv_aload_n hx hb dL_law_305 rfl (lv_at hl 5 rfl) ?_
        refine lv_iconst (v := nI 0) hx hb dL_law_306 ci_0 ?_
        refine z_lald0 hx hb hKL hP 23 rfl dL_law_307 ?_
        refine lv_iload hx hb dL_law_308 (lv_at hl 0 rfl) ?_
        refine lv_i2l hx hb dL_law_310 rfl ?_
        refine z_lcmpS hx hb (vp0.trans (congrArg Int32.toInt64 (congrArg nI (hCR _ hj_272.1).2.2.2.symm))) dL_law_311 ?_
        refine z_if_eq (tgt := 317) hx hb dL_law_312 (by decide) (by omega) (fun c_312 => ?_) (fun c_312 => ?_)
        · refine lv_goto (tgt := 1119) hx hb dL_law_317 (by decide) ?_
          refine W.widen (k := cells + 1) (n := slots + 18) (by omega) (by omega) ?_
          exact kk H locs ls ⟨q, sg, rp, lo, ea, (dcT T k j_272), (dcL Lf k j_272), k - 1, t, n, f2_272, lf2_272, C2_272, ps2_272, cnt2_272, fs, lfs, Cs, pss, cnts, se, gf, ak, gn, 0, K2_284, Lm2_284, f9, C9, go, ak9, gn9, gf9, (vp_updL fo 0 ((nI (Lf j_272)).toInt64)), hP, (by omega), (by omega), ht, hq, (by omega), hpart_272, cr_drop hCR hj_272.1 hs1 hs2, kd_drop hKD hs1⟩ hS (lv_sub hl [2, 3, 4, 5, 6] rfl)
        · exact absurd c_312 (by decide)
    · exact absurd c_295 (by decide)
set_option maxHeartbeats 4000000 in
set_option maxRecDepth 100000 in
theorem arm_write {pg : Program} {l : Launch} {ev : Env} {sv : State} {mi : MethodId} {ag : Array Value} {bl : List Frame} {mt : Method} {cd : Code} {H : Heap} {locs : List Loc} {cells slots : Nat} {Q : State → Prop} {ls : Array Slot} {D : va_G} {cI cL : ClassId} {A : Nat → Prop} {H0 : Heap} {b L : Nat} {xs : Nat → Int32} {h0 b0 b1 b2 m0 m1 p0 p1 p2 p3 p4 s0 s1 s2 s3 s4 q0 y0 y1 y2 y3 y4 y5 o sgB i : Nat} (hCx : LCx pg l sv mi ag cd D cI cL A H0 b L xs [h0, b0, b1, b2, m0, m1, p0, p1, p2, p3, p4, s0, s1, s2, s3, s4, q0, y0, y1, y2, y3, y4, y5, o]) (hI : LInv D cI cL h0 b0 b1 b2 m0 m1 p0 p1 p2 p3 p4 s0 s1 s2 s3 s4 q0 y0 y1 y2 y3 y4 y5 o sgB H) (hS : va_S A H0 H locs) (hl : lv_has ls 9 [(0, .ref b), (1, .ref h0), (2, .ref y0), (3, .ref o), (4, .int (nI i))]) (hi : i + 5 ≤ L) (hsB : sgB ≤ 59000) (hcc : cells + 1 ≤ 601024) (hss : slots + 18 ≤ 7293034)
    (kk : ∀ (H1 : Heap) (locs1 : List Loc) (ls1 : Array Slot), LInv D cI cL h0 b0 b1 b2 m0 m1 p0 p1 p2 p3 p4 s0 s1 s2 s3 s4 q0 y0 y1 y2 y3 y4 y5 o (sgB + 96) H1 → va_S A H0 H1 locs1 → lv_has ls1 9 [(0, .ref b), (1, .ref h0), (2, .ref y0), (3, .ref o), (4, .int (nI i))] → W pg l ev room_1 sv mi ag bl mt cd H1 locs1 (cells + 1) (slots + 18) Q (F0 mi 1119 ls1 [])) : W pg l ev room_1 sv mi ag bl mt cd H locs cells slots Q (F0 mi 389 ls []) := by
  obtain ⟨hx, hb, hml, hts, hown, hKL, hE, hlt, hX, hbl, hbA, hT0, hL9, hD, hA⟩ := hCx
  obtain ⟨q, sg, rp, lo, ea, T, Lf, k, t, n, f, lf, C, ps, cnt, fs, lfs, Cs, pss, cnts, se, gf, ak, gn, th, K, Lm, f9, C9, go, ak9, gn9, gf9, fo, hP, hk, hn, ht, hq, hsg0, hPC, hCR, hKD⟩ := hI
  have hP : va_P D vwCl [(h0, .inr (4, [.ref b0, .ref m0, .ref p0, .ref s0, .ref q0, .int (nI q), .int (nI sg), .int rp, .int lo, .int ea])), (b0, .inr (0, [.ref b1, .ref b2, .int (nI k)])), (b1, .inl (cI, 32, .inl T)), (b2, .inl (cI, 8, .inl (nA Lf))), (m0, .inr (1, [.ref m1, .int (nI n)])), (m1, .inl (cI, 24, .inl (nA t))), (p0, .inr (2, [.ref p1, .ref p2, .ref p3, .ref p4, .int (nI cnt)])), (p1, .inl (cI, 25, .inl (nA f))), (p2, .inl (cI, 24, .inl (nA lf))), (p3, .inl (cI, 24, .inl C)), (p4, .inl (cI, 24, .inl (nA ps))), (s0, .inr (2, [.ref s1, .ref s2, .ref s3, .ref s4, .int (nI cnts)])), (s1, .inl (cI, 25, .inl (nA fs))), (s2, .inl (cI, 24, .inl (nA lfs))), (s3, .inl (cI, 24, .inl Cs)), (s4, .inl (cI, 24, .inl (nA pss))), (q0, .inr (3, [.int (nI se), .int (nI gf), .int (nI ak), .int (nI gn)])), (y0, .inr (5, [.int (nI th), .int (nI k), .ref y1, .ref y2, .int (nI n), .ref y3, .int (nI q), .int (nI sg), .int rp, .int lo, .int ea, .ref y4, .ref y5, .int (nI go), .int (nI ak9), .int (nI gn9), .int (nI gf9)])), (y1, .inl (cI, 9, .inl K)), (y2, .inl (cI, 9, .inl (nA Lm))), (y3, .inl (cI, 24, .inl (nA t))), (y4, .inl (cI, 25, .inl (nA f9))), (y5, .inl (cI, 24, .inl C9)), (o, .inl (cL, 1, .inr (.inl fo)))] H := hP
  have hK := hKL.sub (tys' := [(cI, .int)]) [0] rfl
  have hT := zT.kept hT0 (fun a h1 h2 => hS.2.1 a h1 h2)
  have hL := cr_L hCR
  have hLk := cr_Lm hCR
  have hKk := cr_K hCR
  have hsg : sg ≤ 60000 := by omega
  have hst : ∀ g, g < cnt → ps g < n := fun g hg => by rw [(hPC.2.1 g hg).1]; exact (hPC.2.1 g hg).2
  have hcnt : cnt ≤ 24 := Nat.le_trans hPC.2.2.2 hn
  have hps : ∀ j, j < cnt → ps j < 24 := fun j hj => Nat.lt_of_lt_of_le (hst j hj) hn
  have hc0 : cells ≤ room_1.cells := Nat.le_trans (Nat.le_succ _) hcc
  have hs0 : slots ≤ room_1.slots := Nat.le_trans (Nat.le_add_right _ _) hss
  have hs6 : slots + 6 ≤ room_1.slots := Nat.le_trans (Nat.add_le_add_left (by decide) _) hss
  have hg9 := cr_g ht hCR hKD hPC
  refine lv_aload_n hx hb dL_law_389 rfl (lv_at hl 1 rfl) ?_
  refine lv_aload_n hx hb dL_law_390 rfl (lv_at hl 0 rfl) ?_
  refine lv_iload hx hb dL_law_391 (lv_at hl 4 rfl) ?_
  refine lv_iconst (v := nI 1) hx hb dL_law_393 ci_1 ?_
  refine z_iadd hx hb dL_law_394 ?_
  refine z_sld hx hb hX hbl hbA hS (by omega) (by omega) dL_law_395 ?_
  refine lv_aload_n hx hb dL_law_396 rfl (lv_at hl 3 rfl) ?_
  refine z_lxS (As := [.ref h0, .int (xs (i + 1)), .ref o]) (rest := []) ⟨hx, hb, hml, hown, hts⟩ (c_L_write l D cI cL o fo h0 b0 m0 p0 s0 q0 q sg rp lo ea p1 p2 p3 p4 f lf C ps cnt m1 t n b1 b2 T Lf k (xs (i + 1)) (by first | assumption | omega) (by first | assumption | omega) (by first | assumption | omega) hlt) (vx_cwSW 3 hts gL_law_L_write rfl rfl rfl hd_L_write ⟨Nat.le_of_ble_eq_true rfl, Nat.le_of_ble_eq_true rfl⟩) ⟨hKL, hE⟩ hP hD rfl hS hT [0, 6, 7, 8, 9, 10, 4, 5, 1, 2, 3, 23] (by decide) rfl (fun u => by rcases u with _ | u <;> rfl) rfl hl.1 rfl (Nat.le_of_ble_eq_true rfl) dL_law_397 hcc hs6 (fun v9 u9 H locs hp hP hS hk9 => ?_)
  rcases u9 with _ | ⟨u9, r9⟩
  · obtain ⟨E9, hpx, rfl⟩ := hp
    rcases hpx with ⟨rfl, hcond⟩ | ⟨rfl, hcond⟩
    · have hP : va_P D vwCl [(h0, .inr (4, [.ref b0, .ref m0, .ref p0, .ref s0, .ref q0, .int (nI q), .int (nI sg), .int rp, .int lo, .int ea])), (b0, .inr (0, [.ref b1, .ref b2, .int (nI k)])), (b1, .inl (cI, 32, .inl T)), (b2, .inl (cI, 8, .inl (nA Lf))), (m0, .inr (1, [.ref m1, .int (nI n)])), (m1, .inl (cI, 24, .inl (nA t))), (p0, .inr (2, [.ref p1, .ref p2, .ref p3, .ref p4, .int (nI cnt)])), (p1, .inl (cI, 25, .inl (nA f))), (p2, .inl (cI, 24, .inl (nA lf))), (p3, .inl (cI, 24, .inl C)), (p4, .inl (cI, 24, .inl (nA ps))), (s0, .inr (2, [.ref s1, .ref s2, .ref s3, .ref s4, .int (nI cnts)])), (s1, .inl (cI, 25, .inl (nA fs))), (s2, .inl (cI, 24, .inl (nA lfs))), (s3, .inl (cI, 24, .inl Cs)), (s4, .inl (cI, 24, .inl (nA pss))), (q0, .inr (3, [.int (nI se), .int (nI gf), .int (nI ak), .int (nI gn)])), (y0, .inr (5, [.int (nI th), .int (nI k), .ref y1, .ref y2, .int (nI n), .ref y3, .int (nI q), .int (nI sg), .int rp, .int lo, .int ea, .ref y4, .ref y5, .int (nI go), .int (nI ak9), .int (nI gn9), .int (nI gf9)])), (y1, .inl (cI, 9, .inl K)), (y2, .inl (cI, 9, .inl (nA Lm))), (y3, .inl (cI, 24, .inl (nA t))), (y4, .inl (cI, 25, .inl (nA f9))), (y5, .inl (cI, 24, .inl C9)), (o, .inl (cL, 1, .inr (.inl fo)))] H := hP
      refine W.eq (g2 := F0 mi 400 ls [.int (cdA zIAE)]) rfl ?_
      refine z_top (y := nI 1) cdA_1 ?_
      refine lv_istore (lv' := [(5, .int (nI 1)), (0, .ref b), (1, .ref h0), (2, .ref y0), (3, .ref o), (4, .int (nI i))]) hx hb dL_law_400 hl (by decide) rfl (fun ls hl => ?_)
      refine lv_aload_n hx hb dL_law_402 rfl (lv_at hl 3 rfl) ?_
      refine lv_aload_n hx hb dL_law_403 rfl (lv_at hl 1 rfl) ?_
      refine lv_iload hx hb dL_law_404 (lv_at hl 5 rfl) ?_
      refine lv_iconst (v := nI 1) hx hb dL_law_406 ci_1 ?_
      refine z_iadd hx hb dL_law_407 ?_
      refine z_sld hx hb hX hbl hbA hS (by omega) (by omega) dL_law_408 ?_
      refine z_muV (As := [.int (xs (i + 1))]) (rest := []) ⟨hx, hb, hml, hown, hts⟩ (c_X5_write l D cI y0 y1 y2 y3 y4 y5 th k n q sg rp lo ea go ak9 gn9 gf9 t (xs (i + 1)) (by first | assumption | omega)) (cwV 1 hts gL_law_X5_write rfl rfl rfl hd_X5_write ⟨Nat.le_of_ble_eq_true rfl, Nat.le_of_ble_eq_true rfl⟩) ⟨hK, hE⟩ hP hD rfl hS [17, 20] (by decide) rfl (fun _ => rfl) (va_recv hK hP (ci := 5) (q0 := 17) rfl rfl) rfl hl.1 rfl (Nat.le_of_ble_eq_true rfl) dL_law_409 hcc hs6 (fun v9 u9 H locs hp hP hS => ?_)
      obtain ⟨th2_409, n2_409, t2_409, r_409⟩ := u9
      obtain ⟨rfl, hd_409⟩ := hp
      try dsimp only at hd_409
      have hP : va_P D vwCl [(h0, .inr (4, [.ref b0, .ref m0, .ref p0, .ref s0, .ref q0, .int (nI q), .int (nI sg), .int rp, .int lo, .int ea])), (b0, .inr (0, [.ref b1, .ref b2, .int (nI k)])), (b1, .inl (cI, 32, .inl T)), (b2, .inl (cI, 8, .inl (nA Lf))), (m0, .inr (1, [.ref m1, .int (nI n)])), (m1, .inl (cI, 24, .inl (nA t))), (p0, .inr (2, [.ref p1, .ref p2, .ref p3, .ref p4, .int (nI cnt)])), (p1, .inl (cI, 25, .inl (nA f))), (p2, .inl (cI, 24, .inl (nA lf))), (p3, .inl (cI, 24, .inl C)), (p4, .inl (cI, 24, .inl (nA ps))), (s0, .inr (2, [.ref s1, .ref s2, .ref s3, .ref s4, .int (nI cnts)])), (s1, .inl (cI, 25, .inl (nA fs))), (s2, .inl (cI, 24, .inl (nA lfs))), (s3, .inl (cI, 24, .inl Cs)), (s4, .inl (cI, 24, .inl (nA pss))), (q0, .inr (3, [.int (nI se), .int (nI gf), .int (nI ak), .int (nI gn)])), (y0, .inr (5, [.int (nI th2_409), .int (nI k), .ref y1, .ref y2, .int (nI n2_409), .ref y3, .int (nI q), .int (nI sg), .int rp, .int lo, .int ea, .ref y4, .ref y5, .int (nI go), .int (nI ak9), .int (nI gn9), .int (nI gf9)])), (y1, .inl (cI, 9, .inl K)), (y2, .inl (cI, 9, .inl (nA Lm))), (y3, .inl (cI, 24, .inl (nA t2_409))), (y4, .inl (cI, 25, .inl (nA f9))), (y5, .inl (cI, 24, .inl C9)), (o, .inl (cL, 1, .inr (.inl fo)))] H := hP
      refine W.eq (g2 := F0 mi 412 ls [.int r_409]) rfl ?_
      obtain ⟨-, z1, z2, z3, z4⟩ := (hd_409.resolve_left (fun ⟨j9, a1, a2, _⟩ => hcond ⟨j9, a1, a2⟩)).resolve_right (fun z => hcond z.1)
      replace z1 := z1.symm
      subst z1
      replace z2 := z2.symm
      subst z2
      replace z3 := z3.symm
      subst z3
      replace z4 := z4.symm
      subst z4
      have hP : va_P D vwCl [(h0, .inr (4, [.ref b0, .ref m0, .ref p0, .ref s0, .ref q0, .int (nI q), .int (nI sg), .int rp, .int lo, .int ea])), (b0, .inr (0, [.ref b1, .ref b2, .int (nI k)])), (b1, .inl (cI, 32, .inl T)), (b2, .inl (cI, 8, .inl (nA Lf))), (m0, .inr (1, [.ref m1, .int (nI n)])), (m1, .inl (cI, 24, .inl (nA t))), (p0, .inr (2, [.ref p1, .ref p2, .ref p3, .ref p4, .int (nI cnt)])), (p1, .inl (cI, 25, .inl (nA f))), (p2, .inl (cI, 24, .inl (nA lf))), (p3, .inl (cI, 24, .inl C)), (p4, .inl (cI, 24, .inl (nA ps))), (s0, .inr (2, [.ref s1, .ref s2, .ref s3, .ref s4, .int (nI cnts)])), (s1, .inl (cI, 25, .inl (nA fs))), (s2, .inl (cI, 24, .inl (nA lfs))), (s3, .inl (cI, 24, .inl Cs)), (s4, .inl (cI, 24, .inl (nA pss))), (q0, .inr (3, [.int (nI se), .int (nI gf), .int (nI ak), .int (nI gn)])), (y0, .inr (5, [.int (nI 1), .int (nI k), .ref y1, .ref y2, .int (nI n), .ref y3, .int (nI q), .int (nI sg), .int rp, .int lo, .int ea, .ref y4, .ref y5, .int (nI go), .int (nI ak9), .int (nI gn9), .int (nI gf9)])), (y1, .inl (cI, 9, .inl K)), (y2, .inl (cI, 9, .inl (nA Lm))), (y3, .inl (cI, 24, .inl (nA t))), (y4, .inl (cI, 25, .inl (nA f9))), (y5, .inl (cI, 24, .inl C9)), (o, .inl (cL, 1, .inr (.inl fo)))] H := hP
      refine lv_istore (lv' := [(6, .int (nI 0)), (5, .int (nI 1)), (0, .ref b), (1, .ref h0), (2, .ref y0), (3, .ref o), (4, .int (nI i))]) hx hb dL_law_412 hl (by decide) rfl (fun ls hl => ?_)
      refine lv_aload_n hx hb dL_law_414 rfl (lv_at hl 4 rfl) ?_
      refine z_roV (As := []) (rest := []) ⟨hx, hb, hml, hown, hts⟩ (c_X5_thrown l D cI y0 y1 y2 y3 y4 y5 1 k n q sg rp lo ea go ak9 gn9 gf9) (cwV 0 hts gL_law_X5_thrown rfl rfl rfl hd_X5_thrown ⟨Nat.le_of_ble_eq_true rfl, Nat.le_of_ble_eq_true rfl⟩) ⟨hK, hE⟩ (hP.sub (ws' := [(y0, .inr (5, [.int (nI 1), .int (nI k), .ref y1, .ref y2, .int (nI n), .ref y3, .int (nI q), .int (nI sg), .int rp, .int lo, .int ea, .ref y4, .ref y5, .int (nI go), .int (nI ak9), .int (nI gn9), .int (nI gf9)]))]) [17] rfl) (va_recv hK hP (ci := 5) (q0 := 17) rfl rfl) rfl hl.1 rfl (Nat.le_of_ble_eq_true rfl) dL_law_415 hcc hs6 ?_
      refine lv_iload hx hb dL_law_418 (lv_at hl 1 rfl) ?_
      refine z_icmp_eq (tgt := 425) hx hb dL_law_420 (by decide) (by omega) (by omega) (fun c_420 => ?_) (fun c_420 => ?_)
      · refine lv_iload hx hb dL_law_425 (lv_at hl 1 rfl) ?_
        refine z_if_ne (tgt := 442) hx hb dL_law_427 (by decide) (by omega) (fun c_427 => ?_) (fun c_427 => ?_)
        · refine lv_goto (tgt := 1119) hx hb dL_law_442 (by decide) ?_
          refine W.widen (k := cells + 1) (n := slots + 18) (by omega) (by omega) ?_
          exact kk H locs ls ⟨q, sg, rp, lo, ea, T, Lf, k, t, n, f, lf, C, ps, cnt, fs, lfs, Cs, pss, cnts, se, gf, ak, gn, 1, K, Lm, f9, C9, go, ak9, gn9, gf9, fo, hP, (by omega), (by omega), ht, hq, (by omega), hPC, hCR, hKD⟩ hS (lv_sub hl [2, 3, 4, 5, 6] rfl)
        · exact absurd c_427 (by decide)
      · exact absurd c_420 (by decide)
    · have hP : va_P D vwCl [(h0, .inr (4, [.ref b0, .ref m0, .ref p0, .ref s0, .ref q0, .int (nI q), .int (nI sg), .int rp, .int lo, .int ea])), (b0, .inr (0, [.ref b1, .ref b2, .int (nI k)])), (b1, .inl (cI, 32, .inl T)), (b2, .inl (cI, 8, .inl (nA Lf))), (m0, .inr (1, [.ref m1, .int (nI n)])), (m1, .inl (cI, 24, .inl (nA t))), (p0, .inr (2, [.ref p1, .ref p2, .ref p3, .ref p4, .int (nI cnt)])), (p1, .inl (cI, 25, .inl (nA f))), (p2, .inl (cI, 24, .inl (nA lf))), (p3, .inl (cI, 24, .inl C)), (p4, .inl (cI, 24, .inl (nA ps))), (s0, .inr (2, [.ref s1, .ref s2, .ref s3, .ref s4, .int (nI cnts)])), (s1, .inl (cI, 25, .inl (nA fs))), (s2, .inl (cI, 24, .inl (nA lfs))), (s3, .inl (cI, 24, .inl Cs)), (s4, .inl (cI, 24, .inl (nA pss))), (q0, .inr (3, [.int (nI se), .int (nI gf), .int (nI ak), .int (nI gn)])), (y0, .inr (5, [.int (nI th), .int (nI k), .ref y1, .ref y2, .int (nI n), .ref y3, .int (nI q), .int (nI sg), .int rp, .int lo, .int ea, .ref y4, .ref y5, .int (nI go), .int (nI ak9), .int (nI gn9), .int (nI gf9)])), (y1, .inl (cI, 9, .inl K)), (y2, .inl (cI, 9, .inl (nA Lm))), (y3, .inl (cI, 24, .inl (nA t))), (y4, .inl (cI, 25, .inl (nA f9))), (y5, .inl (cI, 24, .inl C9)), (o, .inl (cL, 1, .inr (.inl fo)))] H := hP
      refine W.eq (g2 := F0 mi 400 ls [.int (cdA zISE)]) rfl ?_
      refine z_top (y := nI 2) cdA_2 ?_
      refine lv_istore (lv' := [(5, .int (nI 2)), (0, .ref b), (1, .ref h0), (2, .ref y0), (3, .ref o), (4, .int (nI i))]) hx hb dL_law_400 hl (by decide) rfl (fun ls hl => ?_)
      refine lv_aload_n hx hb dL_law_402 rfl (lv_at hl 3 rfl) ?_
      refine lv_aload_n hx hb dL_law_403 rfl (lv_at hl 1 rfl) ?_
      refine lv_iload hx hb dL_law_404 (lv_at hl 5 rfl) ?_
      refine lv_iconst (v := nI 1) hx hb dL_law_406 ci_1 ?_
      refine z_iadd hx hb dL_law_407 ?_
      refine z_sld hx hb hX hbl hbA hS (by omega) (by omega) dL_law_408 ?_
      refine z_muV (As := [.int (xs (i + 1))]) (rest := []) ⟨hx, hb, hml, hown, hts⟩ (c_X5_write l D cI y0 y1 y2 y3 y4 y5 th k n q sg rp lo ea go ak9 gn9 gf9 t (xs (i + 1)) (by first | assumption | omega)) (cwV 1 hts gL_law_X5_write rfl rfl rfl hd_X5_write ⟨Nat.le_of_ble_eq_true rfl, Nat.le_of_ble_eq_true rfl⟩) ⟨hK, hE⟩ hP hD rfl hS [17, 20] (by decide) rfl (fun _ => rfl) (va_recv hK hP (ci := 5) (q0 := 17) rfl rfl) rfl hl.1 rfl (Nat.le_of_ble_eq_true rfl) dL_law_409 hcc hs6 (fun v9 u9 H locs hp hP hS => ?_)
      obtain ⟨th2_409, n2_409, t2_409, r_409⟩ := u9
      obtain ⟨rfl, hd_409⟩ := hp
      try dsimp only at hd_409
      have hP : va_P D vwCl [(h0, .inr (4, [.ref b0, .ref m0, .ref p0, .ref s0, .ref q0, .int (nI q), .int (nI sg), .int rp, .int lo, .int ea])), (b0, .inr (0, [.ref b1, .ref b2, .int (nI k)])), (b1, .inl (cI, 32, .inl T)), (b2, .inl (cI, 8, .inl (nA Lf))), (m0, .inr (1, [.ref m1, .int (nI n)])), (m1, .inl (cI, 24, .inl (nA t))), (p0, .inr (2, [.ref p1, .ref p2, .ref p3, .ref p4, .int (nI cnt)])), (p1, .inl (cI, 25, .inl (nA f))), (p2, .inl (cI, 24, .inl (nA lf))), (p3, .inl (cI, 24, .inl C)), (p4, .inl (cI, 24, .inl (nA ps))), (s0, .inr (2, [.ref s1, .ref s2, .ref s3, .ref s4, .int (nI cnts)])), (s1, .inl (cI, 25, .inl (nA fs))), (s2, .inl (cI, 24, .inl (nA lfs))), (s3, .inl (cI, 24, .inl Cs)), (s4, .inl (cI, 24, .inl (nA pss))), (q0, .inr (3, [.int (nI se), .int (nI gf), .int (nI ak), .int (nI gn)])), (y0, .inr (5, [.int (nI th2_409), .int (nI k), .ref y1, .ref y2, .int (nI n2_409), .ref y3, .int (nI q), .int (nI sg), .int rp, .int lo, .int ea, .ref y4, .ref y5, .int (nI go), .int (nI ak9), .int (nI gn9), .int (nI gf9)])), (y1, .inl (cI, 9, .inl K)), (y2, .inl (cI, 9, .inl (nA Lm))), (y3, .inl (cI, 24, .inl (nA t2_409))), (y4, .inl (cI, 25, .inl (nA f9))), (y5, .inl (cI, 24, .inl C9)), (o, .inl (cL, 1, .inr (.inl fo)))] H := hP
      refine W.eq (g2 := F0 mi 412 ls [.int r_409]) rfl ?_
      obtain ⟨-, -, z1, z2, z3, z4⟩ := (hd_409.resolve_left (fun ⟨_, _, _, a3, _⟩ => by have := hcond.2; omega)).resolve_left (fun z => z.1 hcond.1)
      replace z1 := z1.symm
      subst z1
      replace z2 := z2.symm
      subst z2
      replace z3 := z3.symm
      subst z3
      replace z4 := z4.symm
      subst z4
      have hP : va_P D vwCl [(h0, .inr (4, [.ref b0, .ref m0, .ref p0, .ref s0, .ref q0, .int (nI q), .int (nI sg), .int rp, .int lo, .int ea])), (b0, .inr (0, [.ref b1, .ref b2, .int (nI k)])), (b1, .inl (cI, 32, .inl T)), (b2, .inl (cI, 8, .inl (nA Lf))), (m0, .inr (1, [.ref m1, .int (nI n)])), (m1, .inl (cI, 24, .inl (nA t))), (p0, .inr (2, [.ref p1, .ref p2, .ref p3, .ref p4, .int (nI cnt)])), (p1, .inl (cI, 25, .inl (nA f))), (p2, .inl (cI, 24, .inl (nA lf))), (p3, .inl (cI, 24, .inl C)), (p4, .inl (cI, 24, .inl (nA ps))), (s0, .inr (2, [.ref s1, .ref s2, .ref s3, .ref s4, .int (nI cnts)])), (s1, .inl (cI, 25, .inl (nA fs))), (s2, .inl (cI, 24, .inl (nA lfs))), (s3, .inl (cI, 24, .inl Cs)), (s4, .inl (cI, 24, .inl (nA pss))), (q0, .inr (3, [.int (nI se), .int (nI gf), .int (nI ak), .int (nI gn)])), (y0, .inr (5, [.int (nI 2), .int (nI k), .ref y1, .ref y2, .int (nI n), .ref y3, .int (nI q), .int (nI sg), .int rp, .int lo, .int ea, .ref y4, .ref y5, .int (nI go), .int (nI ak9), .int (nI gn9), .int (nI gf9)])), (y1, .inl (cI, 9, .inl K)), (y2, .inl (cI, 9, .inl (nA Lm))), (y3, .inl (cI, 24, .inl (nA t))), (y4, .inl (cI, 25, .inl (nA f9))), (y5, .inl (cI, 24, .inl C9)), (o, .inl (cL, 1, .inr (.inl fo)))] H := hP
      refine lv_istore (lv' := [(6, .int (nI 0)), (5, .int (nI 2)), (0, .ref b), (1, .ref h0), (2, .ref y0), (3, .ref o), (4, .int (nI i))]) hx hb dL_law_412 hl (by decide) rfl (fun ls hl => ?_)
      refine lv_aload_n hx hb dL_law_414 rfl (lv_at hl 4 rfl) ?_
      refine z_roV (As := []) (rest := []) ⟨hx, hb, hml, hown, hts⟩ (c_X5_thrown l D cI y0 y1 y2 y3 y4 y5 2 k n q sg rp lo ea go ak9 gn9 gf9) (cwV 0 hts gL_law_X5_thrown rfl rfl rfl hd_X5_thrown ⟨Nat.le_of_ble_eq_true rfl, Nat.le_of_ble_eq_true rfl⟩) ⟨hK, hE⟩ (hP.sub (ws' := [(y0, .inr (5, [.int (nI 2), .int (nI k), .ref y1, .ref y2, .int (nI n), .ref y3, .int (nI q), .int (nI sg), .int rp, .int lo, .int ea, .ref y4, .ref y5, .int (nI go), .int (nI ak9), .int (nI gn9), .int (nI gf9)]))]) [17] rfl) (va_recv hK hP (ci := 5) (q0 := 17) rfl rfl) rfl hl.1 rfl (Nat.le_of_ble_eq_true rfl) dL_law_415 hcc hs6 ?_
      refine lv_iload hx hb dL_law_418 (lv_at hl 1 rfl) ?_
      refine z_icmp_eq (tgt := 425) hx hb dL_law_420 (by decide) (by omega) (by omega) (fun c_420 => ?_) (fun c_420 => ?_)
      · refine lv_iload hx hb dL_law_425 (lv_at hl 1 rfl) ?_
        refine z_if_ne (tgt := 442) hx hb dL_law_427 (by decide) (by omega) (fun c_427 => ?_) (fun c_427 => ?_)
        · refine lv_goto (tgt := 1119) hx hb dL_law_442 (by decide) ?_
          refine W.widen (k := cells + 1) (n := slots + 18) (by omega) (by omega) ?_
          exact kk H locs ls ⟨q, sg, rp, lo, ea, T, Lf, k, t, n, f, lf, C, ps, cnt, fs, lfs, Cs, pss, cnts, se, gf, ak, gn, 2, K, Lm, f9, C9, go, ak9, gn9, gf9, fo, hP, (by omega), (by omega), ht, hq, (by omega), hPC, hCR, hKD⟩ hS (lv_sub hl [2, 3, 4, 5, 6] rfl)
        · exact absurd c_427 (by decide)
      · exact absurd c_420 (by decide)
  · obtain ⟨j_397, f2_397, lf2_397, C2_397, ps2_397, cnt2_397⟩ := u9
    obtain ⟨rfl, hr9, hj_397, hlt_397, hpart_397⟩ := hp
    try dsimp only at hr9
    have hr8 := (Value.int.inj (Option.some.inj hr9)).symm
    subst hr8
    try dsimp only at hj_397 hlt_397 hpart_397
    have hP : va_P D vwCl [(h0, .inr (4, [.ref b0, .ref m0, .ref p0, .ref s0, .ref q0, .int (nI q), .int (nI sg), .int rp, .int lo, .int ea])), (b0, .inr (0, [.ref b1, .ref b2, .int (nI k)])), (b1, .inl (cI, 32, .inl T)), (b2, .inl (cI, 8, .inl (nA Lf))), (m0, .inr (1, [.ref m1, .int (nI (n + 1))])), (m1, .inl (cI, 24, .inl (nA (updN t n j_397)))), (p0, .inr (2, [.ref p1, .ref p2, .ref p3, .ref p4, .int (nI cnt2_397)])), (p1, .inl (cI, 25, .inl (nA f2_397))), (p2, .inl (cI, 24, .inl (nA lf2_397))), (p3, .inl (cI, 24, .inl C2_397)), (p4, .inl (cI, 24, .inl (nA ps2_397))), (s0, .inr (2, [.ref s1, .ref s2, .ref s3, .ref s4, .int (nI cnts)])), (s1, .inl (cI, 25, .inl (nA fs))), (s2, .inl (cI, 24, .inl (nA lfs))), (s3, .inl (cI, 24, .inl Cs)), (s4, .inl (cI, 24, .inl (nA pss))), (q0, .inr (3, [.int (nI se), .int (nI gf), .int (nI ak), .int (nI gn)])), (y0, .inr (5, [.int (nI th), .int (nI k), .ref y1, .ref y2, .int (nI n), .ref y3, .int (nI q), .int (nI sg), .int rp, .int lo, .int ea, .ref y4, .ref y5, .int (nI go), .int (nI ak9), .int (nI gn9), .int (nI gf9)])), (y1, .inl (cI, 9, .inl K)), (y2, .inl (cI, 9, .inl (nA Lm))), (y3, .inl (cI, 24, .inl (nA t))), (y4, .inl (cI, 25, .inl (nA f9))), (y5, .inl (cI, 24, .inl C9)), (o, .inl (cL, 1, .inr (.inl (vp_updL fo 0 ((nI (n + 1)).toInt64)))))] H := hP
    refine W.eq (g2 := F0 mi 400 ls [.int (nI 0)]) rfl ?_
    refine lv_istore (lv' := [(5, .int (nI 0)), (0, .ref b), (1, .ref h0), (2, .ref y0), (3, .ref o), (4, .int (nI i))]) hx hb dL_law_400 hl (by decide) rfl (fun ls hl => ?_)
    refine lv_aload_n hx hb dL_law_402 rfl (lv_at hl 3 rfl) ?_
    refine lv_aload_n hx hb dL_law_403 rfl (lv_at hl 1 rfl) ?_
    refine lv_iload hx hb dL_law_404 (lv_at hl 5 rfl) ?_
    refine lv_iconst (v := nI 1) hx hb dL_law_406 ci_1 ?_
    refine z_iadd hx hb dL_law_407 ?_
    refine z_sld hx hb hX hbl hbA hS (by omega) (by omega) dL_law_408 ?_
    refine z_muV (As := [.int (xs (i + 1))]) (rest := []) ⟨hx, hb, hml, hown, hts⟩ (c_X5_write l D cI y0 y1 y2 y3 y4 y5 th k n q sg rp lo ea go ak9 gn9 gf9 t (xs (i + 1)) (by first | assumption | omega)) (cwV 1 hts gL_law_X5_write rfl rfl rfl hd_X5_write ⟨Nat.le_of_ble_eq_true rfl, Nat.le_of_ble_eq_true rfl⟩) ⟨hK, hE⟩ hP hD rfl hS [17, 20] (by decide) rfl (fun _ => rfl) (va_recv hK hP (ci := 5) (q0 := 17) rfl rfl) rfl hl.1 rfl (Nat.le_of_ble_eq_true rfl) dL_law_409 hcc hs6 (fun v9 u9 H locs hp hP hS => ?_)
    obtain ⟨th2_409, n2_409, t2_409, r_409⟩ := u9
    obtain ⟨rfl, hd_409⟩ := hp
    try dsimp only at hd_409
    have hP : va_P D vwCl [(h0, .inr (4, [.ref b0, .ref m0, .ref p0, .ref s0, .ref q0, .int (nI q), .int (nI sg), .int rp, .int lo, .int ea])), (b0, .inr (0, [.ref b1, .ref b2, .int (nI k)])), (b1, .inl (cI, 32, .inl T)), (b2, .inl (cI, 8, .inl (nA Lf))), (m0, .inr (1, [.ref m1, .int (nI (n + 1))])), (m1, .inl (cI, 24, .inl (nA (updN t n j_397)))), (p0, .inr (2, [.ref p1, .ref p2, .ref p3, .ref p4, .int (nI cnt2_397)])), (p1, .inl (cI, 25, .inl (nA f2_397))), (p2, .inl (cI, 24, .inl (nA lf2_397))), (p3, .inl (cI, 24, .inl C2_397)), (p4, .inl (cI, 24, .inl (nA ps2_397))), (s0, .inr (2, [.ref s1, .ref s2, .ref s3, .ref s4, .int (nI cnts)])), (s1, .inl (cI, 25, .inl (nA fs))), (s2, .inl (cI, 24, .inl (nA lfs))), (s3, .inl (cI, 24, .inl Cs)), (s4, .inl (cI, 24, .inl (nA pss))), (q0, .inr (3, [.int (nI se), .int (nI gf), .int (nI ak), .int (nI gn)])), (y0, .inr (5, [.int (nI th2_409), .int (nI k), .ref y1, .ref y2, .int (nI n2_409), .ref y3, .int (nI q), .int (nI sg), .int rp, .int lo, .int ea, .ref y4, .ref y5, .int (nI go), .int (nI ak9), .int (nI gn9), .int (nI gf9)])), (y1, .inl (cI, 9, .inl K)), (y2, .inl (cI, 9, .inl (nA Lm))), (y3, .inl (cI, 24, .inl (nA t2_409))), (y4, .inl (cI, 25, .inl (nA f9))), (y5, .inl (cI, 24, .inl C9)), (o, .inl (cL, 1, .inr (.inl (vp_updL fo 0 ((nI (n + 1)).toInt64)))))] H := hP
    refine W.eq (g2 := F0 mi 412 ls [.int r_409]) rfl ?_
    obtain ⟨j9, a1, a2, -, z1, z2, z3, z4⟩ := hd_409.resolve_right (fun z => z.elim (fun z => z.1 ⟨_, hj_397⟩) (fun z => by have := z.2.1; omega))
    replace z1 := z1.symm
    subst z1
    replace z2 := z2.symm
    subst z2
    replace z3 := z3.symm
    subst z3
    replace z4 := z4.symm
    subst z4
    have e9 : j_397 = j9 := by have e8 : nI j_397 = nI j9 := hj_397.2.symm.trans a2; have := hj_397.1; exact (nI_eq (by omega) (by omega)).mp e8
    subst e9
    have hP : va_P D vwCl [(h0, .inr (4, [.ref b0, .ref m0, .ref p0, .ref s0, .ref q0, .int (nI q), .int (nI sg), .int rp, .int lo, .int ea])), (b0, .inr (0, [.ref b1, .ref b2, .int (nI k)])), (b1, .inl (cI, 32, .inl T)), (b2, .inl (cI, 8, .inl (nA Lf))), (m0, .inr (1, [.ref m1, .int (nI (n + 1))])), (m1, .inl (cI, 24, .inl (nA (updN t n j_397)))), (p0, .inr (2, [.ref p1, .ref p2, .ref p3, .ref p4, .int (nI cnt2_397)])), (p1, .inl (cI, 25, .inl (nA f2_397))), (p2, .inl (cI, 24, .inl (nA lf2_397))), (p3, .inl (cI, 24, .inl C2_397)), (p4, .inl (cI, 24, .inl (nA ps2_397))), (s0, .inr (2, [.ref s1, .ref s2, .ref s3, .ref s4, .int (nI cnts)])), (s1, .inl (cI, 25, .inl (nA fs))), (s2, .inl (cI, 24, .inl (nA lfs))), (s3, .inl (cI, 24, .inl Cs)), (s4, .inl (cI, 24, .inl (nA pss))), (q0, .inr (3, [.int (nI se), .int (nI gf), .int (nI ak), .int (nI gn)])), (y0, .inr (5, [.int (nI 0), .int (nI k), .ref y1, .ref y2, .int (nI (n + 1)), .ref y3, .int (nI q), .int (nI sg), .int rp, .int lo, .int ea, .ref y4, .ref y5, .int (nI go), .int (nI ak9), .int (nI gn9), .int (nI gf9)])), (y1, .inl (cI, 9, .inl K)), (y2, .inl (cI, 9, .inl (nA Lm))), (y3, .inl (cI, 24, .inl (nA (updN t n j_397)))), (y4, .inl (cI, 25, .inl (nA f9))), (y5, .inl (cI, 24, .inl C9)), (o, .inl (cL, 1, .inr (.inl (vp_updL fo 0 ((nI (n + 1)).toInt64)))))] H := hP
    refine lv_istore (lv' := [(6, .int (nI (n + 1))), (5, .int (nI 0)), (0, .ref b), (1, .ref h0), (2, .ref y0), (3, .ref o), (4, .int (nI i))]) hx hb dL_law_412 hl (by decide) rfl (fun ls hl => ?_)
    refine lv_aload_n hx hb dL_law_414 rfl (lv_at hl 4 rfl) ?_
    refine z_roV (As := []) (rest := []) ⟨hx, hb, hml, hown, hts⟩ (c_X5_thrown l D cI y0 y1 y2 y3 y4 y5 0 k (n + 1) q sg rp lo ea go ak9 gn9 gf9) (cwV 0 hts gL_law_X5_thrown rfl rfl rfl hd_X5_thrown ⟨Nat.le_of_ble_eq_true rfl, Nat.le_of_ble_eq_true rfl⟩) ⟨hK, hE⟩ (hP.sub (ws' := [(y0, .inr (5, [.int (nI 0), .int (nI k), .ref y1, .ref y2, .int (nI (n + 1)), .ref y3, .int (nI q), .int (nI sg), .int rp, .int lo, .int ea, .ref y4, .ref y5, .int (nI go), .int (nI ak9), .int (nI gn9), .int (nI gf9)]))]) [17] rfl) (va_recv hK hP (ci := 5) (q0 := 17) rfl rfl) rfl hl.1 rfl (Nat.le_of_ble_eq_true rfl) dL_law_415 hcc hs6 ?_
    refine lv_iload hx hb dL_law_418 (lv_at hl 1 rfl) ?_
    refine z_icmp_eq (tgt := 425) hx hb dL_law_420 (by decide) (by omega) (by omega) (fun c_420 => ?_) (fun c_420 => ?_)
    · refine lv_iload hx hb dL_law_425 (lv_at hl 1 rfl) ?_
      refine z_if_ne (tgt := 442) hx hb dL_law_427 (by decide) (by omega) (fun c_427 => ?_) (fun c_427 => ?_)
      · exact absurd c_427 (by decide)
      · refine lv_aload_n hx hb dL_law_430 rfl (lv_at hl 5 rfl) ?_
        refine lv_iconst (v := nI 0) hx hb dL_law_431 ci_0 ?_
        refine z_lald0 hx hb hKL hP 23 rfl dL_law_432 ?_
        refine lv_iload hx hb dL_law_433 (lv_at hl 0 rfl) ?_
        refine lv_i2l hx hb dL_law_435 rfl ?_
        refine z_lcmpS hx hb (vp0.trans (congrArg Int32.toInt64 (rfl))) dL_law_436 ?_
        refine z_if_eq (tgt := 442) hx hb dL_law_437 (by decide) (by omega) (fun c_437 => ?_) (fun c_437 => ?_)
        · refine lv_goto (tgt := 1119) hx hb dL_law_442 (by decide) ?_
          refine W.widen (k := cells + 1) (n := slots + 18) (by omega) (by omega) ?_
          exact kk H locs ls ⟨q, sg, rp, lo, ea, T, Lf, k, (updN t n j_397), n + 1, f2_397, lf2_397, C2_397, ps2_397, cnt2_397, fs, lfs, Cs, pss, cnts, se, gf, ak, gn, 0, K, Lm, f9, C9, go, ak9, gn9, gf9, (vp_updL fo 0 ((nI (n + 1)).toInt64)), hP, (by omega), (by omega), wr_t ht hj_397.1, hq, (by omega), hpart_397, hCR, hKD⟩ hS (lv_sub hl [2, 3, 4, 5, 6] rfl)
        · exact absurd c_437 (by decide)
    · exact absurd c_420 (by decide)
set_option maxHeartbeats 4000000 in
set_option maxRecDepth 100000 in
theorem arm_strike {pg : Program} {l : Launch} {ev : Env} {sv : State} {mi : MethodId} {ag : Array Value} {bl : List Frame} {mt : Method} {cd : Code} {H : Heap} {locs : List Loc} {cells slots : Nat} {Q : State → Prop} {ls : Array Slot} {D : va_G} {cI cL : ClassId} {A : Nat → Prop} {H0 : Heap} {b L : Nat} {xs : Nat → Int32} {h0 b0 b1 b2 m0 m1 p0 p1 p2 p3 p4 s0 s1 s2 s3 s4 q0 y0 y1 y2 y3 y4 y5 o sgB i : Nat} (hCx : LCx pg l sv mi ag cd D cI cL A H0 b L xs [h0, b0, b1, b2, m0, m1, p0, p1, p2, p3, p4, s0, s1, s2, s3, s4, q0, y0, y1, y2, y3, y4, y5, o]) (hI : LInv D cI cL h0 b0 b1 b2 m0 m1 p0 p1 p2 p3 p4 s0 s1 s2 s3 s4 q0 y0 y1 y2 y3 y4 y5 o sgB H) (hS : va_S A H0 H locs) (hl : lv_has ls 9 [(0, .ref b), (1, .ref h0), (2, .ref y0), (3, .ref o), (4, .int (nI i))]) (hi : i + 5 ≤ L) (hsB : sgB ≤ 59000) (hcc : cells + 1 ≤ 601024) (hss : slots + 18 ≤ 7293034)
    (kk : ∀ (H1 : Heap) (locs1 : List Loc) (ls1 : Array Slot), LInv D cI cL h0 b0 b1 b2 m0 m1 p0 p1 p2 p3 p4 s0 s1 s2 s3 s4 q0 y0 y1 y2 y3 y4 y5 o (sgB + 96) H1 → va_S A H0 H1 locs1 → lv_has ls1 9 [(0, .ref b), (1, .ref h0), (2, .ref y0), (3, .ref o), (4, .int (nI i))] → W pg l ev room_1 sv mi ag bl mt cd H1 locs1 (cells + 1) (slots + 18) Q (F0 mi 1119 ls1 [])) : W pg l ev room_1 sv mi ag bl mt cd H locs cells slots Q (F0 mi 445 ls []) := by
  obtain ⟨hx, hb, hml, hts, hown, hKL, hE, hlt, hX, hbl, hbA, hT0, hL9, hD, hA⟩ := hCx
  obtain ⟨q, sg, rp, lo, ea, T, Lf, k, t, n, f, lf, C, ps, cnt, fs, lfs, Cs, pss, cnts, se, gf, ak, gn, th, K, Lm, f9, C9, go, ak9, gn9, gf9, fo, hP, hk, hn, ht, hq, hsg0, hPC, hCR, hKD⟩ := hI
  have hP : va_P D vwCl [(h0, .inr (4, [.ref b0, .ref m0, .ref p0, .ref s0, .ref q0, .int (nI q), .int (nI sg), .int rp, .int lo, .int ea])), (b0, .inr (0, [.ref b1, .ref b2, .int (nI k)])), (b1, .inl (cI, 32, .inl T)), (b2, .inl (cI, 8, .inl (nA Lf))), (m0, .inr (1, [.ref m1, .int (nI n)])), (m1, .inl (cI, 24, .inl (nA t))), (p0, .inr (2, [.ref p1, .ref p2, .ref p3, .ref p4, .int (nI cnt)])), (p1, .inl (cI, 25, .inl (nA f))), (p2, .inl (cI, 24, .inl (nA lf))), (p3, .inl (cI, 24, .inl C)), (p4, .inl (cI, 24, .inl (nA ps))), (s0, .inr (2, [.ref s1, .ref s2, .ref s3, .ref s4, .int (nI cnts)])), (s1, .inl (cI, 25, .inl (nA fs))), (s2, .inl (cI, 24, .inl (nA lfs))), (s3, .inl (cI, 24, .inl Cs)), (s4, .inl (cI, 24, .inl (nA pss))), (q0, .inr (3, [.int (nI se), .int (nI gf), .int (nI ak), .int (nI gn)])), (y0, .inr (5, [.int (nI th), .int (nI k), .ref y1, .ref y2, .int (nI n), .ref y3, .int (nI q), .int (nI sg), .int rp, .int lo, .int ea, .ref y4, .ref y5, .int (nI go), .int (nI ak9), .int (nI gn9), .int (nI gf9)])), (y1, .inl (cI, 9, .inl K)), (y2, .inl (cI, 9, .inl (nA Lm))), (y3, .inl (cI, 24, .inl (nA t))), (y4, .inl (cI, 25, .inl (nA f9))), (y5, .inl (cI, 24, .inl C9)), (o, .inl (cL, 1, .inr (.inl fo)))] H := hP
  have hK := hKL.sub (tys' := [(cI, .int)]) [0] rfl
  have hT := zT.kept hT0 (fun a h1 h2 => hS.2.1 a h1 h2)
  have hL := cr_L hCR
  have hLk := cr_Lm hCR
  have hKk := cr_K hCR
  have hsg : sg ≤ 60000 := by omega
  have hst : ∀ g, g < cnt → ps g < n := fun g hg => by rw [(hPC.2.1 g hg).1]; exact (hPC.2.1 g hg).2
  have hcnt : cnt ≤ 24 := Nat.le_trans hPC.2.2.2 hn
  have hps : ∀ j, j < cnt → ps j < 24 := fun j hj => Nat.lt_of_lt_of_le (hst j hj) hn
  have hc0 : cells ≤ room_1.cells := Nat.le_trans (Nat.le_succ _) hcc
  have hs0 : slots ≤ room_1.slots := Nat.le_trans (Nat.le_add_right _ _) hss
  have hs6 : slots + 6 ≤ room_1.slots := Nat.le_trans (Nat.add_le_add_left (by decide) _) hss
  have hg9 := cr_g ht hCR hKD hPC
  refine lv_aload_n hx hb dL_law_445 rfl (lv_at hl 1 rfl) ?_
  refine lv_aload_n hx hb dL_law_446 rfl (lv_at hl 3 rfl) ?_
  refine z_lxS (As := [.ref h0, .ref o]) (rest := []) ⟨hx, hb, hml, hown, hts⟩ (c_L_strike l D cI cL o fo h0 b0 m0 p0 s0 q0 q sg rp lo ea p1 p2 p3 p4 f lf C ps cnt m1 t n b1 b2 T Lf k (by first | assumption | omega) (by first | assumption | omega) (by first | assumption | omega) hlt) (vx_cwSW 2 hts gL_law_L_strike rfl rfl rfl hd_L_strike ⟨Nat.le_of_ble_eq_true rfl, Nat.le_of_ble_eq_true rfl⟩) ⟨hKL, hE⟩ hP hD rfl hS hT [0, 6, 7, 8, 9, 10, 4, 5, 1, 2, 3, 23] (by decide) rfl (fun u => by rcases u with _ | u <;> rfl) rfl hl.1 rfl (Nat.le_of_ble_eq_true rfl) dL_law_447 hcc hs6 (fun v9 u9 H locs hp hP hS hk9 => ?_)
  rcases u9 with _ | ⟨u9, r9⟩
  · obtain ⟨E9, ⟨rfl, hcond⟩, rfl⟩ := hp
    have hP : va_P D vwCl [(h0, .inr (4, [.ref b0, .ref m0, .ref p0, .ref s0, .ref q0, .int (nI q), .int (nI sg), .int rp, .int lo, .int ea])), (b0, .inr (0, [.ref b1, .ref b2, .int (nI k)])), (b1, .inl (cI, 32, .inl T)), (b2, .inl (cI, 8, .inl (nA Lf))), (m0, .inr (1, [.ref m1, .int (nI n)])), (m1, .inl (cI, 24, .inl (nA t))), (p0, .inr (2, [.ref p1, .ref p2, .ref p3, .ref p4, .int (nI cnt)])), (p1, .inl (cI, 25, .inl (nA f))), (p2, .inl (cI, 24, .inl (nA lf))), (p3, .inl (cI, 24, .inl C)), (p4, .inl (cI, 24, .inl (nA ps))), (s0, .inr (2, [.ref s1, .ref s2, .ref s3, .ref s4, .int (nI cnts)])), (s1, .inl (cI, 25, .inl (nA fs))), (s2, .inl (cI, 24, .inl (nA lfs))), (s3, .inl (cI, 24, .inl Cs)), (s4, .inl (cI, 24, .inl (nA pss))), (q0, .inr (3, [.int (nI se), .int (nI gf), .int (nI ak), .int (nI gn)])), (y0, .inr (5, [.int (nI th), .int (nI k), .ref y1, .ref y2, .int (nI n), .ref y3, .int (nI q), .int (nI sg), .int rp, .int lo, .int ea, .ref y4, .ref y5, .int (nI go), .int (nI ak9), .int (nI gn9), .int (nI gf9)])), (y1, .inl (cI, 9, .inl K)), (y2, .inl (cI, 9, .inl (nA Lm))), (y3, .inl (cI, 24, .inl (nA t))), (y4, .inl (cI, 25, .inl (nA f9))), (y5, .inl (cI, 24, .inl C9)), (o, .inl (cL, 1, .inr (.inl fo)))] H := hP
    refine W.eq (g2 := F0 mi 450 ls [.int (nI 1)]) rfl ?_
    refine lv_istore (lv' := [(5, .int (nI 1)), (0, .ref b), (1, .ref h0), (2, .ref y0), (3, .ref o), (4, .int (nI i))]) hx hb dL_law_450 hl (by decide) rfl (fun ls hl => ?_)
    refine lv_aload_n hx hb dL_law_452 rfl (lv_at hl 3 rfl) ?_
    refine z_muV (As := []) (rest := []) ⟨hx, hb, hml, hown, hts⟩ (c_X5_strike l D cI y0 y1 y2 y3 y4 y5 th k n q sg rp lo ea go ak9 gn9 gf9 t (by first | assumption | omega)) (cwV 0 hts gL_law_X5_strike rfl rfl rfl hd_X5_strike ⟨Nat.le_of_ble_eq_true rfl, Nat.le_of_ble_eq_true rfl⟩) ⟨hK, hE⟩ hP hD rfl hS [17, 20] (by decide) rfl (fun _ => rfl) (va_recv hK hP (ci := 5) (q0 := 17) rfl rfl) rfl hl.1 rfl (Nat.le_of_ble_eq_true rfl) dL_law_453 hcc hs6 (fun v9 u9 H locs hp hP hS => ?_)
    obtain ⟨th2_453, n2_453, r_453⟩ := u9
    obtain ⟨rfl, hd_453⟩ := hp
    try dsimp only at hd_453
    have hP : va_P D vwCl [(h0, .inr (4, [.ref b0, .ref m0, .ref p0, .ref s0, .ref q0, .int (nI q), .int (nI sg), .int rp, .int lo, .int ea])), (b0, .inr (0, [.ref b1, .ref b2, .int (nI k)])), (b1, .inl (cI, 32, .inl T)), (b2, .inl (cI, 8, .inl (nA Lf))), (m0, .inr (1, [.ref m1, .int (nI n)])), (m1, .inl (cI, 24, .inl (nA t))), (p0, .inr (2, [.ref p1, .ref p2, .ref p3, .ref p4, .int (nI cnt)])), (p1, .inl (cI, 25, .inl (nA f))), (p2, .inl (cI, 24, .inl (nA lf))), (p3, .inl (cI, 24, .inl C)), (p4, .inl (cI, 24, .inl (nA ps))), (s0, .inr (2, [.ref s1, .ref s2, .ref s3, .ref s4, .int (nI cnts)])), (s1, .inl (cI, 25, .inl (nA fs))), (s2, .inl (cI, 24, .inl (nA lfs))), (s3, .inl (cI, 24, .inl Cs)), (s4, .inl (cI, 24, .inl (nA pss))), (q0, .inr (3, [.int (nI se), .int (nI gf), .int (nI ak), .int (nI gn)])), (y0, .inr (5, [.int (nI th2_453), .int (nI k), .ref y1, .ref y2, .int (nI n2_453), .ref y3, .int (nI q), .int (nI sg), .int rp, .int lo, .int ea, .ref y4, .ref y5, .int (nI go), .int (nI ak9), .int (nI gn9), .int (nI gf9)])), (y1, .inl (cI, 9, .inl K)), (y2, .inl (cI, 9, .inl (nA Lm))), (y3, .inl (cI, 24, .inl (nA t))), (y4, .inl (cI, 25, .inl (nA f9))), (y5, .inl (cI, 24, .inl C9)), (o, .inl (cL, 1, .inr (.inl fo)))] H := hP
    refine W.eq (g2 := F0 mi 456 ls [.int r_453]) rfl ?_
    obtain ⟨-, z1, z2, z3⟩ := hd_453.resolve_left (fun z => by have := z.1; omega)
    replace z1 := z1.symm
    subst z1
    replace z2 := z2.symm
    subst z2
    replace z3 := z3.symm
    subst z3
    have hP : va_P D vwCl [(h0, .inr (4, [.ref b0, .ref m0, .ref p0, .ref s0, .ref q0, .int (nI q), .int (nI sg), .int rp, .int lo, .int ea])), (b0, .inr (0, [.ref b1, .ref b2, .int (nI k)])), (b1, .inl (cI, 32, .inl T)), (b2, .inl (cI, 8, .inl (nA Lf))), (m0, .inr (1, [.ref m1, .int (nI n)])), (m1, .inl (cI, 24, .inl (nA t))), (p0, .inr (2, [.ref p1, .ref p2, .ref p3, .ref p4, .int (nI cnt)])), (p1, .inl (cI, 25, .inl (nA f))), (p2, .inl (cI, 24, .inl (nA lf))), (p3, .inl (cI, 24, .inl C)), (p4, .inl (cI, 24, .inl (nA ps))), (s0, .inr (2, [.ref s1, .ref s2, .ref s3, .ref s4, .int (nI cnts)])), (s1, .inl (cI, 25, .inl (nA fs))), (s2, .inl (cI, 24, .inl (nA lfs))), (s3, .inl (cI, 24, .inl Cs)), (s4, .inl (cI, 24, .inl (nA pss))), (q0, .inr (3, [.int (nI se), .int (nI gf), .int (nI ak), .int (nI gn)])), (y0, .inr (5, [.int (nI 1), .int (nI k), .ref y1, .ref y2, .int (nI n), .ref y3, .int (nI q), .int (nI sg), .int rp, .int lo, .int ea, .ref y4, .ref y5, .int (nI go), .int (nI ak9), .int (nI gn9), .int (nI gf9)])), (y1, .inl (cI, 9, .inl K)), (y2, .inl (cI, 9, .inl (nA Lm))), (y3, .inl (cI, 24, .inl (nA t))), (y4, .inl (cI, 25, .inl (nA f9))), (y5, .inl (cI, 24, .inl C9)), (o, .inl (cL, 1, .inr (.inl fo)))] H := hP
    refine lv_istore (lv' := [(6, .int (nI 0)), (5, .int (nI 1)), (0, .ref b), (1, .ref h0), (2, .ref y0), (3, .ref o), (4, .int (nI i))]) hx hb dL_law_456 hl (by decide) rfl (fun ls hl => ?_)
    refine lv_aload_n hx hb dL_law_458 rfl (lv_at hl 4 rfl) ?_
    refine z_roV (As := []) (rest := []) ⟨hx, hb, hml, hown, hts⟩ (c_X5_thrown l D cI y0 y1 y2 y3 y4 y5 1 k n q sg rp lo ea go ak9 gn9 gf9) (cwV 0 hts gL_law_X5_thrown rfl rfl rfl hd_X5_thrown ⟨Nat.le_of_ble_eq_true rfl, Nat.le_of_ble_eq_true rfl⟩) ⟨hK, hE⟩ (hP.sub (ws' := [(y0, .inr (5, [.int (nI 1), .int (nI k), .ref y1, .ref y2, .int (nI n), .ref y3, .int (nI q), .int (nI sg), .int rp, .int lo, .int ea, .ref y4, .ref y5, .int (nI go), .int (nI ak9), .int (nI gn9), .int (nI gf9)]))]) [17] rfl) (va_recv hK hP (ci := 5) (q0 := 17) rfl rfl) rfl hl.1 rfl (Nat.le_of_ble_eq_true rfl) dL_law_459 hcc hs6 ?_
    refine lv_iload hx hb dL_law_462 (lv_at hl 1 rfl) ?_
    refine z_icmp_eq (tgt := 469) hx hb dL_law_464 (by decide) (by omega) (by omega) (fun c_464 => ?_) (fun c_464 => ?_)
    · refine lv_iload hx hb dL_law_469 (lv_at hl 1 rfl) ?_
      refine z_if_ne (tgt := 486) hx hb dL_law_471 (by decide) (by omega) (fun c_471 => ?_) (fun c_471 => ?_)
      · refine lv_goto (tgt := 1119) hx hb dL_law_486 (by decide) ?_
        refine W.widen (k := cells + 1) (n := slots + 18) (by omega) (by omega) ?_
        exact kk H locs ls ⟨q, sg, rp, lo, ea, T, Lf, k, t, n, f, lf, C, ps, cnt, fs, lfs, Cs, pss, cnts, se, gf, ak, gn, 1, K, Lm, f9, C9, go, ak9, gn9, gf9, fo, hP, (by omega), (by omega), ht, hq, (by omega), hPC, hCR, hKD⟩ hS (lv_sub hl [2, 3, 4, 5, 6] rfl)
      · exact absurd c_471 (by decide)
    · exact absurd c_464 (by decide)
  · obtain ⟨f2_447, lf2_447, C2_447, ps2_447, cnt2_447⟩ := u9
    obtain ⟨rfl, hr9, hn0_447, hpart_447⟩ := hp
    try dsimp only at hr9
    have hr8 := (Value.int.inj (Option.some.inj hr9)).symm
    subst hr8
    try dsimp only at hn0_447 hpart_447
    have hP : va_P D vwCl [(h0, .inr (4, [.ref b0, .ref m0, .ref p0, .ref s0, .ref q0, .int (nI q), .int (nI sg), .int rp, .int lo, .int ea])), (b0, .inr (0, [.ref b1, .ref b2, .int (nI k)])), (b1, .inl (cI, 32, .inl T)), (b2, .inl (cI, 8, .inl (nA Lf))), (m0, .inr (1, [.ref m1, .int (nI (n - 1))])), (m1, .inl (cI, 24, .inl (nA t))), (p0, .inr (2, [.ref p1, .ref p2, .ref p3, .ref p4, .int (nI cnt2_447)])), (p1, .inl (cI, 25, .inl (nA f2_447))), (p2, .inl (cI, 24, .inl (nA lf2_447))), (p3, .inl (cI, 24, .inl C2_447)), (p4, .inl (cI, 24, .inl (nA ps2_447))), (s0, .inr (2, [.ref s1, .ref s2, .ref s3, .ref s4, .int (nI cnts)])), (s1, .inl (cI, 25, .inl (nA fs))), (s2, .inl (cI, 24, .inl (nA lfs))), (s3, .inl (cI, 24, .inl Cs)), (s4, .inl (cI, 24, .inl (nA pss))), (q0, .inr (3, [.int (nI se), .int (nI gf), .int (nI ak), .int (nI gn)])), (y0, .inr (5, [.int (nI th), .int (nI k), .ref y1, .ref y2, .int (nI n), .ref y3, .int (nI q), .int (nI sg), .int rp, .int lo, .int ea, .ref y4, .ref y5, .int (nI go), .int (nI ak9), .int (nI gn9), .int (nI gf9)])), (y1, .inl (cI, 9, .inl K)), (y2, .inl (cI, 9, .inl (nA Lm))), (y3, .inl (cI, 24, .inl (nA t))), (y4, .inl (cI, 25, .inl (nA f9))), (y5, .inl (cI, 24, .inl C9)), (o, .inl (cL, 1, .inr (.inl (vp_updL fo 0 ((nI (t (n - 1))).toInt64)))))] H := hP
    refine W.eq (g2 := F0 mi 450 ls [.int (nI 0)]) rfl ?_
    refine lv_istore (lv' := [(5, .int (nI 0)), (0, .ref b), (1, .ref h0), (2, .ref y0), (3, .ref o), (4, .int (nI i))]) hx hb dL_law_450 hl (by decide) rfl (fun ls hl => ?_)
    refine lv_aload_n hx hb dL_law_452 rfl (lv_at hl 3 rfl) ?_
    refine z_muV (As := []) (rest := []) ⟨hx, hb, hml, hown, hts⟩ (c_X5_strike l D cI y0 y1 y2 y3 y4 y5 th k n q sg rp lo ea go ak9 gn9 gf9 t (by first | assumption | omega)) (cwV 0 hts gL_law_X5_strike rfl rfl rfl hd_X5_strike ⟨Nat.le_of_ble_eq_true rfl, Nat.le_of_ble_eq_true rfl⟩) ⟨hK, hE⟩ hP hD rfl hS [17, 20] (by decide) rfl (fun _ => rfl) (va_recv hK hP (ci := 5) (q0 := 17) rfl rfl) rfl hl.1 rfl (Nat.le_of_ble_eq_true rfl) dL_law_453 hcc hs6 (fun v9 u9 H locs hp hP hS => ?_)
    obtain ⟨th2_453, n2_453, r_453⟩ := u9
    obtain ⟨rfl, hd_453⟩ := hp
    try dsimp only at hd_453
    have hP : va_P D vwCl [(h0, .inr (4, [.ref b0, .ref m0, .ref p0, .ref s0, .ref q0, .int (nI q), .int (nI sg), .int rp, .int lo, .int ea])), (b0, .inr (0, [.ref b1, .ref b2, .int (nI k)])), (b1, .inl (cI, 32, .inl T)), (b2, .inl (cI, 8, .inl (nA Lf))), (m0, .inr (1, [.ref m1, .int (nI (n - 1))])), (m1, .inl (cI, 24, .inl (nA t))), (p0, .inr (2, [.ref p1, .ref p2, .ref p3, .ref p4, .int (nI cnt2_447)])), (p1, .inl (cI, 25, .inl (nA f2_447))), (p2, .inl (cI, 24, .inl (nA lf2_447))), (p3, .inl (cI, 24, .inl C2_447)), (p4, .inl (cI, 24, .inl (nA ps2_447))), (s0, .inr (2, [.ref s1, .ref s2, .ref s3, .ref s4, .int (nI cnts)])), (s1, .inl (cI, 25, .inl (nA fs))), (s2, .inl (cI, 24, .inl (nA lfs))), (s3, .inl (cI, 24, .inl Cs)), (s4, .inl (cI, 24, .inl (nA pss))), (q0, .inr (3, [.int (nI se), .int (nI gf), .int (nI ak), .int (nI gn)])), (y0, .inr (5, [.int (nI th2_453), .int (nI k), .ref y1, .ref y2, .int (nI n2_453), .ref y3, .int (nI q), .int (nI sg), .int rp, .int lo, .int ea, .ref y4, .ref y5, .int (nI go), .int (nI ak9), .int (nI gn9), .int (nI gf9)])), (y1, .inl (cI, 9, .inl K)), (y2, .inl (cI, 9, .inl (nA Lm))), (y3, .inl (cI, 24, .inl (nA t))), (y4, .inl (cI, 25, .inl (nA f9))), (y5, .inl (cI, 24, .inl C9)), (o, .inl (cL, 1, .inr (.inl (vp_updL fo 0 ((nI (t (n - 1))).toInt64)))))] H := hP
    refine W.eq (g2 := F0 mi 456 ls [.int r_453]) rfl ?_
    obtain ⟨-, z1, z2, z3⟩ := hd_453.resolve_right (fun z => by have := z.1; omega)
    replace z1 := z1.symm
    subst z1
    replace z2 := z2.symm
    subst z2
    replace z3 := z3.symm
    subst z3
    have hP : va_P D vwCl [(h0, .inr (4, [.ref b0, .ref m0, .ref p0, .ref s0, .ref q0, .int (nI q), .int (nI sg), .int rp, .int lo, .int ea])), (b0, .inr (0, [.ref b1, .ref b2, .int (nI k)])), (b1, .inl (cI, 32, .inl T)), (b2, .inl (cI, 8, .inl (nA Lf))), (m0, .inr (1, [.ref m1, .int (nI (n - 1))])), (m1, .inl (cI, 24, .inl (nA t))), (p0, .inr (2, [.ref p1, .ref p2, .ref p3, .ref p4, .int (nI cnt2_447)])), (p1, .inl (cI, 25, .inl (nA f2_447))), (p2, .inl (cI, 24, .inl (nA lf2_447))), (p3, .inl (cI, 24, .inl C2_447)), (p4, .inl (cI, 24, .inl (nA ps2_447))), (s0, .inr (2, [.ref s1, .ref s2, .ref s3, .ref s4, .int (nI cnts)])), (s1, .inl (cI, 25, .inl (nA fs))), (s2, .inl (cI, 24, .inl (nA lfs))), (s3, .inl (cI, 24, .inl Cs)), (s4, .inl (cI, 24, .inl (nA pss))), (q0, .inr (3, [.int (nI se), .int (nI gf), .int (nI ak), .int (nI gn)])), (y0, .inr (5, [.int (nI 0), .int (nI k), .ref y1, .ref y2, .int (nI (n - 1)), .ref y3, .int (nI q), .int (nI sg), .int rp, .int lo, .int ea, .ref y4, .ref y5, .int (nI go), .int (nI ak9), .int (nI gn9), .int (nI gf9)])), (y1, .inl (cI, 9, .inl K)), (y2, .inl (cI, 9, .inl (nA Lm))), (y3, .inl (cI, 24, .inl (nA t))), (y4, .inl (cI, 25, .inl (nA f9))), (y5, .inl (cI, 24, .inl C9)), (o, .inl (cL, 1, .inr (.inl (vp_updL fo 0 ((nI (t (n - 1))).toInt64)))))] H := hP
    refine lv_istore (lv' := [(6, .int (nI (t (n - 1)))), (5, .int (nI 0)), (0, .ref b), (1, .ref h0), (2, .ref y0), (3, .ref o), (4, .int (nI i))]) hx hb dL_law_456 hl (by decide) rfl (fun ls hl => ?_)
    refine lv_aload_n hx hb dL_law_458 rfl (lv_at hl 4 rfl) ?_
    refine z_roV (As := []) (rest := []) ⟨hx, hb, hml, hown, hts⟩ (c_X5_thrown l D cI y0 y1 y2 y3 y4 y5 0 k (n - 1) q sg rp lo ea go ak9 gn9 gf9) (cwV 0 hts gL_law_X5_thrown rfl rfl rfl hd_X5_thrown ⟨Nat.le_of_ble_eq_true rfl, Nat.le_of_ble_eq_true rfl⟩) ⟨hK, hE⟩ (hP.sub (ws' := [(y0, .inr (5, [.int (nI 0), .int (nI k), .ref y1, .ref y2, .int (nI (n - 1)), .ref y3, .int (nI q), .int (nI sg), .int rp, .int lo, .int ea, .ref y4, .ref y5, .int (nI go), .int (nI ak9), .int (nI gn9), .int (nI gf9)]))]) [17] rfl) (va_recv hK hP (ci := 5) (q0 := 17) rfl rfl) rfl hl.1 rfl (Nat.le_of_ble_eq_true rfl) dL_law_459 hcc hs6 ?_
    refine lv_iload hx hb dL_law_462 (lv_at hl 1 rfl) ?_
    refine z_icmp_eq (tgt := 469) hx hb dL_law_464 (by decide) (by omega) (by omega) (fun c_464 => ?_) (fun c_464 => ?_)
    · refine lv_iload hx hb dL_law_469 (lv_at hl 1 rfl) ?_
      refine z_if_ne (tgt := 486) hx hb dL_law_471 (by decide) (by omega) (fun c_471 => ?_) (fun c_471 => ?_)
      · exact absurd c_471 (by decide)
      · refine lv_aload_n hx hb dL_law_474 rfl (lv_at hl 5 rfl) ?_
        refine lv_iconst (v := nI 0) hx hb dL_law_475 ci_0 ?_
        refine z_lald0 hx hb hKL hP 23 rfl dL_law_476 ?_
        refine lv_iload hx hb dL_law_477 (lv_at hl 0 rfl) ?_
        refine lv_i2l hx hb dL_law_479 rfl ?_
        refine z_lcmpS hx hb (vp0.trans (congrArg Int32.toInt64 (rfl))) dL_law_480 ?_
        refine z_if_eq (tgt := 486) hx hb dL_law_481 (by decide) (by omega) (fun c_481 => ?_) (fun c_481 => ?_)
        · refine lv_goto (tgt := 1119) hx hb dL_law_486 (by decide) ?_
          refine W.widen (k := cells + 1) (n := slots + 18) (by omega) (by omega) ?_
          exact kk H locs ls ⟨q, sg, rp, lo, ea, T, Lf, k, t, n - 1, f2_447, lf2_447, C2_447, ps2_447, cnt2_447, fs, lfs, Cs, pss, cnts, se, gf, ak, gn, 0, K, Lm, f9, C9, go, ak9, gn9, gf9, (vp_updL fo 0 ((nI (t (n - 1))).toInt64)), hP, (by omega), (by omega), (fun j hj => ht j (by omega)), hq, (by omega), hpart_447, hCR, hKD⟩ hS (lv_sub hl [2, 3, 4, 5, 6] rfl)
        · exact absurd c_481 (by decide)
    · exact absurd c_464 (by decide)
set_option maxHeartbeats 4000000 in
set_option maxRecDepth 100000 in
theorem arm_setQuality {pg : Program} {l : Launch} {ev : Env} {sv : State} {mi : MethodId} {ag : Array Value} {bl : List Frame} {mt : Method} {cd : Code} {H : Heap} {locs : List Loc} {cells slots : Nat} {Q : State → Prop} {ls : Array Slot} {D : va_G} {cI cL : ClassId} {A : Nat → Prop} {H0 : Heap} {b L : Nat} {xs : Nat → Int32} {h0 b0 b1 b2 m0 m1 p0 p1 p2 p3 p4 s0 s1 s2 s3 s4 q0 y0 y1 y2 y3 y4 y5 o sgB i : Nat} (hCx : LCx pg l sv mi ag cd D cI cL A H0 b L xs [h0, b0, b1, b2, m0, m1, p0, p1, p2, p3, p4, s0, s1, s2, s3, s4, q0, y0, y1, y2, y3, y4, y5, o]) (hI : LInv D cI cL h0 b0 b1 b2 m0 m1 p0 p1 p2 p3 p4 s0 s1 s2 s3 s4 q0 y0 y1 y2 y3 y4 y5 o sgB H) (hS : va_S A H0 H locs) (hl : lv_has ls 9 [(0, .ref b), (1, .ref h0), (2, .ref y0), (3, .ref o), (4, .int (nI i))]) (hi : i + 5 ≤ L) (hsB : sgB ≤ 59000) (hcc : cells + 1 ≤ 601024) (hss : slots + 18 ≤ 7293034)
    (kk : ∀ (H1 : Heap) (locs1 : List Loc) (ls1 : Array Slot), LInv D cI cL h0 b0 b1 b2 m0 m1 p0 p1 p2 p3 p4 s0 s1 s2 s3 s4 q0 y0 y1 y2 y3 y4 y5 o (sgB + 96) H1 → va_S A H0 H1 locs1 → lv_has ls1 9 [(0, .ref b), (1, .ref h0), (2, .ref y0), (3, .ref o), (4, .int (nI i))] → W pg l ev room_1 sv mi ag bl mt cd H1 locs1 (cells + 1) (slots + 18) Q (F0 mi 1119 ls1 [])) : W pg l ev room_1 sv mi ag bl mt cd H locs cells slots Q (F0 mi 791 ls []) := by
  obtain ⟨hx, hb, hml, hts, hown, hKL, hE, hlt, hX, hbl, hbA, hT0, hL9, hD, hA⟩ := hCx
  obtain ⟨q, sg, rp, lo, ea, T, Lf, k, t, n, f, lf, C, ps, cnt, fs, lfs, Cs, pss, cnts, se, gf, ak, gn, th, K, Lm, f9, C9, go, ak9, gn9, gf9, fo, hP, hk, hn, ht, hq, hsg0, hPC, hCR, hKD⟩ := hI
  have hP : va_P D vwCl [(h0, .inr (4, [.ref b0, .ref m0, .ref p0, .ref s0, .ref q0, .int (nI q), .int (nI sg), .int rp, .int lo, .int ea])), (b0, .inr (0, [.ref b1, .ref b2, .int (nI k)])), (b1, .inl (cI, 32, .inl T)), (b2, .inl (cI, 8, .inl (nA Lf))), (m0, .inr (1, [.ref m1, .int (nI n)])), (m1, .inl (cI, 24, .inl (nA t))), (p0, .inr (2, [.ref p1, .ref p2, .ref p3, .ref p4, .int (nI cnt)])), (p1, .inl (cI, 25, .inl (nA f))), (p2, .inl (cI, 24, .inl (nA lf))), (p3, .inl (cI, 24, .inl C)), (p4, .inl (cI, 24, .inl (nA ps))), (s0, .inr (2, [.ref s1, .ref s2, .ref s3, .ref s4, .int (nI cnts)])), (s1, .inl (cI, 25, .inl (nA fs))), (s2, .inl (cI, 24, .inl (nA lfs))), (s3, .inl (cI, 24, .inl Cs)), (s4, .inl (cI, 24, .inl (nA pss))), (q0, .inr (3, [.int (nI se), .int (nI gf), .int (nI ak), .int (nI gn)])), (y0, .inr (5, [.int (nI th), .int (nI k), .ref y1, .ref y2, .int (nI n), .ref y3, .int (nI q), .int (nI sg), .int rp, .int lo, .int ea, .ref y4, .ref y5, .int (nI go), .int (nI ak9), .int (nI gn9), .int (nI gf9)])), (y1, .inl (cI, 9, .inl K)), (y2, .inl (cI, 9, .inl (nA Lm))), (y3, .inl (cI, 24, .inl (nA t))), (y4, .inl (cI, 25, .inl (nA f9))), (y5, .inl (cI, 24, .inl C9)), (o, .inl (cL, 1, .inr (.inl fo)))] H := hP
  have hK := hKL.sub (tys' := [(cI, .int)]) [0] rfl
  have hT := zT.kept hT0 (fun a h1 h2 => hS.2.1 a h1 h2)
  have hL := cr_L hCR
  have hLk := cr_Lm hCR
  have hKk := cr_K hCR
  have hsg : sg ≤ 60000 := by omega
  have hst : ∀ g, g < cnt → ps g < n := fun g hg => by rw [(hPC.2.1 g hg).1]; exact (hPC.2.1 g hg).2
  have hcnt : cnt ≤ 24 := Nat.le_trans hPC.2.2.2 hn
  have hps : ∀ j, j < cnt → ps j < 24 := fun j hj => Nat.lt_of_lt_of_le (hst j hj) hn
  have hc0 : cells ≤ room_1.cells := Nat.le_trans (Nat.le_succ _) hcc
  have hs0 : slots ≤ room_1.slots := Nat.le_trans (Nat.le_add_right _ _) hss
  have hs6 : slots + 6 ≤ room_1.slots := Nat.le_trans (Nat.add_le_add_left (by decide) _) hss
  have hg9 := cr_g ht hCR hKD hPC
  refine lv_aload_n hx hb dL_law_791 rfl (lv_at hl 1 rfl) ?_
  refine lv_aload_n hx hb dL_law_792 rfl (lv_at hl 0 rfl) ?_
  refine lv_iload hx hb dL_law_793 (lv_at hl 4 rfl) ?_
  refine lv_iconst (v := nI 1) hx hb dL_law_795 ci_1 ?_
  refine z_iadd hx hb dL_law_796 ?_
  refine z_sld hx hb hX hbl hbA hS (by omega) (by omega) dL_law_797 ?_
  refine lv_aload_n hx hb dL_law_798 rfl (lv_at hl 3 rfl) ?_
  refine z_lxS (As := [.ref h0, .int (xs (i + 1)), .ref o]) (rest := []) ⟨hx, hb, hml, hown, hts⟩ (c_L_setQuality l D cI cL o fo h0 b0 m0 p0 s0 q0 q sg rp lo ea (xs (i + 1)) hlt) (vx_cwSW 3 hts gL_law_L_setQuality rfl rfl rfl hd_L_setQuality ⟨Nat.le_of_ble_eq_true rfl, Nat.le_of_ble_eq_true rfl⟩) ⟨hKL, hE⟩ hP hD rfl hS hT [0, 23] (by decide) rfl (fun u => by rcases u with _ | u <;> rfl) rfl hl.1 rfl (Nat.le_of_ble_eq_true rfl) dL_law_799 hcc hs6 (fun v9 u9 H locs hp hP hS hk9 => ?_)
  rcases u9 with _ | ⟨u9, r9⟩
  · obtain ⟨E9, ⟨rfl, hcond⟩, rfl⟩ := hp
    have hP : va_P D vwCl [(h0, .inr (4, [.ref b0, .ref m0, .ref p0, .ref s0, .ref q0, .int (nI q), .int (nI sg), .int rp, .int lo, .int ea])), (b0, .inr (0, [.ref b1, .ref b2, .int (nI k)])), (b1, .inl (cI, 32, .inl T)), (b2, .inl (cI, 8, .inl (nA Lf))), (m0, .inr (1, [.ref m1, .int (nI n)])), (m1, .inl (cI, 24, .inl (nA t))), (p0, .inr (2, [.ref p1, .ref p2, .ref p3, .ref p4, .int (nI cnt)])), (p1, .inl (cI, 25, .inl (nA f))), (p2, .inl (cI, 24, .inl (nA lf))), (p3, .inl (cI, 24, .inl C)), (p4, .inl (cI, 24, .inl (nA ps))), (s0, .inr (2, [.ref s1, .ref s2, .ref s3, .ref s4, .int (nI cnts)])), (s1, .inl (cI, 25, .inl (nA fs))), (s2, .inl (cI, 24, .inl (nA lfs))), (s3, .inl (cI, 24, .inl Cs)), (s4, .inl (cI, 24, .inl (nA pss))), (q0, .inr (3, [.int (nI se), .int (nI gf), .int (nI ak), .int (nI gn)])), (y0, .inr (5, [.int (nI th), .int (nI k), .ref y1, .ref y2, .int (nI n), .ref y3, .int (nI q), .int (nI sg), .int rp, .int lo, .int ea, .ref y4, .ref y5, .int (nI go), .int (nI ak9), .int (nI gn9), .int (nI gf9)])), (y1, .inl (cI, 9, .inl K)), (y2, .inl (cI, 9, .inl (nA Lm))), (y3, .inl (cI, 24, .inl (nA t))), (y4, .inl (cI, 25, .inl (nA f9))), (y5, .inl (cI, 24, .inl C9)), (o, .inl (cL, 1, .inr (.inl fo)))] H := hP
    refine W.eq (g2 := F0 mi 802 ls [.int (nI 1)]) rfl ?_
    refine lv_istore (lv' := [(5, .int (nI 1)), (0, .ref b), (1, .ref h0), (2, .ref y0), (3, .ref o), (4, .int (nI i))]) hx hb dL_law_802 hl (by decide) rfl (fun ls hl => ?_)
    refine lv_aload_n hx hb dL_law_804 rfl (lv_at hl 3 rfl) ?_
    refine lv_aload_n hx hb dL_law_805 rfl (lv_at hl 1 rfl) ?_
    refine lv_iload hx hb dL_law_806 (lv_at hl 5 rfl) ?_
    refine lv_iconst (v := nI 1) hx hb dL_law_808 ci_1 ?_
    refine z_iadd hx hb dL_law_809 ?_
    refine z_sld hx hb hX hbl hbA hS (by omega) (by omega) dL_law_810 ?_
    refine z_muV (As := [.int (xs (i + 1))]) (rest := []) ⟨hx, hb, hml, hown, hts⟩ (c_X5_setQuality l D cI y0 y1 y2 y3 y4 y5 th k n q sg rp lo ea go ak9 gn9 gf9 (xs (i + 1))) (cwV 1 hts gL_law_X5_setQuality rfl rfl rfl hd_X5_setQuality ⟨Nat.le_of_ble_eq_true rfl, Nat.le_of_ble_eq_true rfl⟩) ⟨hK, hE⟩ hP hD rfl hS [17] (by decide) rfl (fun _ => rfl) (va_recv hK hP (ci := 5) (q0 := 17) rfl rfl) rfl hl.1 rfl (Nat.le_of_ble_eq_true rfl) dL_law_811 hcc hs6 (fun v9 u9 H locs hp hP hS => ?_)
    obtain ⟨th2_811, q2_811, r_811⟩ := u9
    obtain ⟨rfl, hd_811⟩ := hp
    try dsimp only at hd_811
    have hP : va_P D vwCl [(h0, .inr (4, [.ref b0, .ref m0, .ref p0, .ref s0, .ref q0, .int (nI q), .int (nI sg), .int rp, .int lo, .int ea])), (b0, .inr (0, [.ref b1, .ref b2, .int (nI k)])), (b1, .inl (cI, 32, .inl T)), (b2, .inl (cI, 8, .inl (nA Lf))), (m0, .inr (1, [.ref m1, .int (nI n)])), (m1, .inl (cI, 24, .inl (nA t))), (p0, .inr (2, [.ref p1, .ref p2, .ref p3, .ref p4, .int (nI cnt)])), (p1, .inl (cI, 25, .inl (nA f))), (p2, .inl (cI, 24, .inl (nA lf))), (p3, .inl (cI, 24, .inl C)), (p4, .inl (cI, 24, .inl (nA ps))), (s0, .inr (2, [.ref s1, .ref s2, .ref s3, .ref s4, .int (nI cnts)])), (s1, .inl (cI, 25, .inl (nA fs))), (s2, .inl (cI, 24, .inl (nA lfs))), (s3, .inl (cI, 24, .inl Cs)), (s4, .inl (cI, 24, .inl (nA pss))), (q0, .inr (3, [.int (nI se), .int (nI gf), .int (nI ak), .int (nI gn)])), (y0, .inr (5, [.int (nI th2_811), .int (nI k), .ref y1, .ref y2, .int (nI n), .ref y3, .int (nI q2_811), .int (nI sg), .int rp, .int lo, .int ea, .ref y4, .ref y5, .int (nI go), .int (nI ak9), .int (nI gn9), .int (nI gf9)])), (y1, .inl (cI, 9, .inl K)), (y2, .inl (cI, 9, .inl (nA Lm))), (y3, .inl (cI, 24, .inl (nA t))), (y4, .inl (cI, 25, .inl (nA f9))), (y5, .inl (cI, 24, .inl C9)), (o, .inl (cL, 1, .inr (.inl fo)))] H := hP
    refine W.eq (g2 := F0 mi 814 ls [.int r_811]) rfl ?_
    obtain ⟨-, z1, z2, z3⟩ := hd_811.resolve_left (fun ⟨j9, a1, a2, _⟩ => hcond ⟨j9, a1, a2⟩)
    replace z1 := z1.symm
    subst z1
    replace z2 := z2.symm
    subst z2
    replace z3 := z3.symm
    subst z3
    have hP : va_P D vwCl [(h0, .inr (4, [.ref b0, .ref m0, .ref p0, .ref s0, .ref q0, .int (nI q), .int (nI sg), .int rp, .int lo, .int ea])), (b0, .inr (0, [.ref b1, .ref b2, .int (nI k)])), (b1, .inl (cI, 32, .inl T)), (b2, .inl (cI, 8, .inl (nA Lf))), (m0, .inr (1, [.ref m1, .int (nI n)])), (m1, .inl (cI, 24, .inl (nA t))), (p0, .inr (2, [.ref p1, .ref p2, .ref p3, .ref p4, .int (nI cnt)])), (p1, .inl (cI, 25, .inl (nA f))), (p2, .inl (cI, 24, .inl (nA lf))), (p3, .inl (cI, 24, .inl C)), (p4, .inl (cI, 24, .inl (nA ps))), (s0, .inr (2, [.ref s1, .ref s2, .ref s3, .ref s4, .int (nI cnts)])), (s1, .inl (cI, 25, .inl (nA fs))), (s2, .inl (cI, 24, .inl (nA lfs))), (s3, .inl (cI, 24, .inl Cs)), (s4, .inl (cI, 24, .inl (nA pss))), (q0, .inr (3, [.int (nI se), .int (nI gf), .int (nI ak), .int (nI gn)])), (y0, .inr (5, [.int (nI 1), .int (nI k), .ref y1, .ref y2, .int (nI n), .ref y3, .int (nI q), .int (nI sg), .int rp, .int lo, .int ea, .ref y4, .ref y5, .int (nI go), .int (nI ak9), .int (nI gn9), .int (nI gf9)])), (y1, .inl (cI, 9, .inl K)), (y2, .inl (cI, 9, .inl (nA Lm))), (y3, .inl (cI, 24, .inl (nA t))), (y4, .inl (cI, 25, .inl (nA f9))), (y5, .inl (cI, 24, .inl C9)), (o, .inl (cL, 1, .inr (.inl fo)))] H := hP
    refine lv_istore (lv' := [(6, .int (nI 0)), (5, .int (nI 1)), (0, .ref b), (1, .ref h0), (2, .ref y0), (3, .ref o), (4, .int (nI i))]) hx hb dL_law_814 hl (by decide) rfl (fun ls hl => ?_)
    refine lv_aload_n hx hb dL_law_816 rfl (lv_at hl 4 rfl) ?_
    refine z_roV (As := []) (rest := []) ⟨hx, hb, hml, hown, hts⟩ (c_X5_thrown l D cI y0 y1 y2 y3 y4 y5 1 k n q sg rp lo ea go ak9 gn9 gf9) (cwV 0 hts gL_law_X5_thrown rfl rfl rfl hd_X5_thrown ⟨Nat.le_of_ble_eq_true rfl, Nat.le_of_ble_eq_true rfl⟩) ⟨hK, hE⟩ (hP.sub (ws' := [(y0, .inr (5, [.int (nI 1), .int (nI k), .ref y1, .ref y2, .int (nI n), .ref y3, .int (nI q), .int (nI sg), .int rp, .int lo, .int ea, .ref y4, .ref y5, .int (nI go), .int (nI ak9), .int (nI gn9), .int (nI gf9)]))]) [17] rfl) (va_recv hK hP (ci := 5) (q0 := 17) rfl rfl) rfl hl.1 rfl (Nat.le_of_ble_eq_true rfl) dL_law_817 hcc hs6 ?_
    refine lv_iload hx hb dL_law_820 (lv_at hl 1 rfl) ?_
    refine z_icmp_eq (tgt := 827) hx hb dL_law_822 (by decide) (by omega) (by omega) (fun c_822 => ?_) (fun c_822 => ?_)
    · refine lv_iload hx hb dL_law_827 (lv_at hl 1 rfl) ?_
      refine z_if_ne (tgt := 844) hx hb dL_law_829 (by decide) (by omega) (fun c_829 => ?_) (fun c_829 => ?_)
      · refine lv_goto (tgt := 1119) hx hb dL_law_844 (by decide) ?_
        refine W.widen (k := cells + 1) (n := slots + 18) (by omega) (by omega) ?_
        exact kk H locs ls ⟨q, sg, rp, lo, ea, T, Lf, k, t, n, f, lf, C, ps, cnt, fs, lfs, Cs, pss, cnts, se, gf, ak, gn, 1, K, Lm, f9, C9, go, ak9, gn9, gf9, fo, hP, (by omega), (by omega), ht, hq, (by omega), hPC, hCR, hKD⟩ hS (lv_sub hl [2, 3, 4, 5, 6] rfl)
      · exact absurd c_829 (by decide)
    · exact absurd c_822 (by decide)
  · obtain ⟨j_799, rfl⟩ : ∃ z, z = u9 := ⟨_, rfl⟩
    obtain ⟨rfl, hr9, hj_799⟩ := hp
    try dsimp only at hr9
    have hr8 := (Value.int.inj (Option.some.inj hr9)).symm
    subst hr8
    try dsimp only at hj_799
    have hP : va_P D vwCl [(h0, .inr (4, [.ref b0, .ref m0, .ref p0, .ref s0, .ref q0, .int (nI j_799), .int (nI sg), .int rp, .int lo, .int ea])), (b0, .inr (0, [.ref b1, .ref b2, .int (nI k)])), (b1, .inl (cI, 32, .inl T)), (b2, .inl (cI, 8, .inl (nA Lf))), (m0, .inr (1, [.ref m1, .int (nI n)])), (m1, .inl (cI, 24, .inl (nA t))), (p0, .inr (2, [.ref p1, .ref p2, .ref p3, .ref p4, .int (nI cnt)])), (p1, .inl (cI, 25, .inl (nA f))), (p2, .inl (cI, 24, .inl (nA lf))), (p3, .inl (cI, 24, .inl C)), (p4, .inl (cI, 24, .inl (nA ps))), (s0, .inr (2, [.ref s1, .ref s2, .ref s3, .ref s4, .int (nI cnts)])), (s1, .inl (cI, 25, .inl (nA fs))), (s2, .inl (cI, 24, .inl (nA lfs))), (s3, .inl (cI, 24, .inl Cs)), (s4, .inl (cI, 24, .inl (nA pss))), (q0, .inr (3, [.int (nI se), .int (nI gf), .int (nI ak), .int (nI gn)])), (y0, .inr (5, [.int (nI th), .int (nI k), .ref y1, .ref y2, .int (nI n), .ref y3, .int (nI q), .int (nI sg), .int rp, .int lo, .int ea, .ref y4, .ref y5, .int (nI go), .int (nI ak9), .int (nI gn9), .int (nI gf9)])), (y1, .inl (cI, 9, .inl K)), (y2, .inl (cI, 9, .inl (nA Lm))), (y3, .inl (cI, 24, .inl (nA t))), (y4, .inl (cI, 25, .inl (nA f9))), (y5, .inl (cI, 24, .inl C9)), (o, .inl (cL, 1, .inr (.inl (vp_updL fo 0 ((nI q).toInt64)))))] H := hP
    refine W.eq (g2 := F0 mi 802 ls [.int (nI 0)]) rfl ?_
    refine lv_istore (lv' := [(5, .int (nI 0)), (0, .ref b), (1, .ref h0), (2, .ref y0), (3, .ref o), (4, .int (nI i))]) hx hb dL_law_802 hl (by decide) rfl (fun ls hl => ?_)
    refine lv_aload_n hx hb dL_law_804 rfl (lv_at hl 3 rfl) ?_
    refine lv_aload_n hx hb dL_law_805 rfl (lv_at hl 1 rfl) ?_
    refine lv_iload hx hb dL_law_806 (lv_at hl 5 rfl) ?_
    refine lv_iconst (v := nI 1) hx hb dL_law_808 ci_1 ?_
    refine z_iadd hx hb dL_law_809 ?_
    refine z_sld hx hb hX hbl hbA hS (by omega) (by omega) dL_law_810 ?_
    refine z_muV (As := [.int (xs (i + 1))]) (rest := []) ⟨hx, hb, hml, hown, hts⟩ (c_X5_setQuality l D cI y0 y1 y2 y3 y4 y5 th k n q sg rp lo ea go ak9 gn9 gf9 (xs (i + 1))) (cwV 1 hts gL_law_X5_setQuality rfl rfl rfl hd_X5_setQuality ⟨Nat.le_of_ble_eq_true rfl, Nat.le_of_ble_eq_true rfl⟩) ⟨hK, hE⟩ hP hD rfl hS [17] (by decide) rfl (fun _ => rfl) (va_recv hK hP (ci := 5) (q0 := 17) rfl rfl) rfl hl.1 rfl (Nat.le_of_ble_eq_true rfl) dL_law_811 hcc hs6 (fun v9 u9 H locs hp hP hS => ?_)
    obtain ⟨th2_811, q2_811, r_811⟩ := u9
    obtain ⟨rfl, hd_811⟩ := hp
    try dsimp only at hd_811
    have hP : va_P D vwCl [(h0, .inr (4, [.ref b0, .ref m0, .ref p0, .ref s0, .ref q0, .int (nI j_799), .int (nI sg), .int rp, .int lo, .int ea])), (b0, .inr (0, [.ref b1, .ref b2, .int (nI k)])), (b1, .inl (cI, 32, .inl T)), (b2, .inl (cI, 8, .inl (nA Lf))), (m0, .inr (1, [.ref m1, .int (nI n)])), (m1, .inl (cI, 24, .inl (nA t))), (p0, .inr (2, [.ref p1, .ref p2, .ref p3, .ref p4, .int (nI cnt)])), (p1, .inl (cI, 25, .inl (nA f))), (p2, .inl (cI, 24, .inl (nA lf))), (p3, .inl (cI, 24, .inl C)), (p4, .inl (cI, 24, .inl (nA ps))), (s0, .inr (2, [.ref s1, .ref s2, .ref s3, .ref s4, .int (nI cnts)])), (s1, .inl (cI, 25, .inl (nA fs))), (s2, .inl (cI, 24, .inl (nA lfs))), (s3, .inl (cI, 24, .inl Cs)), (s4, .inl (cI, 24, .inl (nA pss))), (q0, .inr (3, [.int (nI se), .int (nI gf), .int (nI ak), .int (nI gn)])), (y0, .inr (5, [.int (nI th2_811), .int (nI k), .ref y1, .ref y2, .int (nI n), .ref y3, .int (nI q2_811), .int (nI sg), .int rp, .int lo, .int ea, .ref y4, .ref y5, .int (nI go), .int (nI ak9), .int (nI gn9), .int (nI gf9)])), (y1, .inl (cI, 9, .inl K)), (y2, .inl (cI, 9, .inl (nA Lm))), (y3, .inl (cI, 24, .inl (nA t))), (y4, .inl (cI, 25, .inl (nA f9))), (y5, .inl (cI, 24, .inl C9)), (o, .inl (cL, 1, .inr (.inl (vp_updL fo 0 ((nI q).toInt64)))))] H := hP
    refine W.eq (g2 := F0 mi 814 ls [.int r_811]) rfl ?_
    obtain ⟨j9, a1, a2, z1, z2, z3⟩ := hd_811.resolve_right (fun z => z.1 ⟨_, hj_799⟩)
    replace z1 := z1.symm
    subst z1
    replace z2 := z2.symm
    subst z2
    replace z3 := z3.symm
    subst z3
    have e9 : j_799 = j9 := by have e8 : nI j_799 = nI j9 := hj_799.2.symm.trans a2; have := hj_799.1; exact (nI_eq (by omega) (by omega)).mp e8
    subst e9
    have hP : va_P D vwCl [(h0, .inr (4, [.ref b0, .ref m0, .ref p0, .ref s0, .ref q0, .int (nI j_799), .int (nI sg), .int rp, .int lo, .int ea])), (b0, .inr (0, [.ref b1, .ref b2, .int (nI k)])), (b1, .inl (cI, 32, .inl T)), (b2, .inl (cI, 8, .inl (nA Lf))), (m0, .inr (1, [.ref m1, .int (nI n)])), (m1, .inl (cI, 24, .inl (nA t))), (p0, .inr (2, [.ref p1, .ref p2, .ref p3, .ref p4, .int (nI cnt)])), (p1, .inl (cI, 25, .inl (nA f))), (p2, .inl (cI, 24, .inl (nA lf))), (p3, .inl (cI, 24, .inl C)), (p4, .inl (cI, 24, .inl (nA ps))), (s0, .inr (2, [.ref s1, .ref s2, .ref s3, .ref s4, .int (nI cnts)])), (s1, .inl (cI, 25, .inl (nA fs))), (s2, .inl (cI, 24, .inl (nA lfs))), (s3, .inl (cI, 24, .inl Cs)), (s4, .inl (cI, 24, .inl (nA pss))), (q0, .inr (3, [.int (nI se), .int (nI gf), .int (nI ak), .int (nI gn)])), (y0, .inr (5, [.int (nI 0), .int (nI k), .ref y1, .ref y2, .int (nI n), .ref y3, .int (nI j_799), .int (nI sg), .int rp, .int lo, .int ea, .ref y4, .ref y5, .int (nI go), .int (nI ak9), .int (nI gn9), .int (nI gf9)])), (y1, .inl (cI, 9, .inl K)), (y2, .inl (cI, 9, .inl (nA Lm))), (y3, .inl (cI, 24, .inl (nA t))), (y4, .inl (cI, 25, .inl (nA f9))), (y5, .inl (cI, 24, .inl C9)), (o, .inl (cL, 1, .inr (.inl (vp_updL fo 0 ((nI q).toInt64)))))] H := hP
    refine lv_istore (lv' := [(6, .int (nI q)), (5, .int (nI 0)), (0, .ref b), (1, .ref h0), (2, .ref y0), (3, .ref o), (4, .int (nI i))]) hx hb dL_law_814 hl (by decide) rfl (fun ls hl => ?_)
    refine lv_aload_n hx hb dL_law_816 rfl (lv_at hl 4 rfl) ?_
    refine z_roV (As := []) (rest := []) ⟨hx, hb, hml, hown, hts⟩ (c_X5_thrown l D cI y0 y1 y2 y3 y4 y5 0 k n j_799 sg rp lo ea go ak9 gn9 gf9) (cwV 0 hts gL_law_X5_thrown rfl rfl rfl hd_X5_thrown ⟨Nat.le_of_ble_eq_true rfl, Nat.le_of_ble_eq_true rfl⟩) ⟨hK, hE⟩ (hP.sub (ws' := [(y0, .inr (5, [.int (nI 0), .int (nI k), .ref y1, .ref y2, .int (nI n), .ref y3, .int (nI j_799), .int (nI sg), .int rp, .int lo, .int ea, .ref y4, .ref y5, .int (nI go), .int (nI ak9), .int (nI gn9), .int (nI gf9)]))]) [17] rfl) (va_recv hK hP (ci := 5) (q0 := 17) rfl rfl) rfl hl.1 rfl (Nat.le_of_ble_eq_true rfl) dL_law_817 hcc hs6 ?_
    refine lv_iload hx hb dL_law_820 (lv_at hl 1 rfl) ?_
    refine z_icmp_eq (tgt := 827) hx hb dL_law_822 (by decide) (by omega) (by omega) (fun c_822 => ?_) (fun c_822 => ?_)
    · refine lv_iload hx hb dL_law_827 (lv_at hl 1 rfl) ?_
      refine z_if_ne (tgt := 844) hx hb dL_law_829 (by decide) (by omega) (fun c_829 => ?_) (fun c_829 => ?_)
      · exact absurd c_829 (by decide)
      · refine lv_aload_n hx hb dL_law_832 rfl (lv_at hl 5 rfl) ?_
        refine lv_iconst (v := nI 0) hx hb dL_law_833 ci_0 ?_
        refine z_lald0 hx hb hKL hP 23 rfl dL_law_834 ?_
        refine lv_iload hx hb dL_law_835 (lv_at hl 0 rfl) ?_
        refine lv_i2l hx hb dL_law_837 rfl ?_
        refine z_lcmpS hx hb (vp0.trans (congrArg Int32.toInt64 (rfl))) dL_law_838 ?_
        refine z_if_eq (tgt := 844) hx hb dL_law_839 (by decide) (by omega) (fun c_839 => ?_) (fun c_839 => ?_)
        · refine lv_goto (tgt := 1119) hx hb dL_law_844 (by decide) ?_
          refine W.widen (k := cells + 1) (n := slots + 18) (by omega) (by omega) ?_
          exact kk H locs ls ⟨j_799, sg, rp, lo, ea, T, Lf, k, t, n, f, lf, C, ps, cnt, fs, lfs, Cs, pss, cnts, se, gf, ak, gn, 0, K, Lm, f9, C9, go, ak9, gn9, gf9, (vp_updL fo 0 ((nI q).toInt64)), hP, (by omega), (by omega), ht, hj_799.1.2, (by omega), hPC, hCR, hKD⟩ hS (lv_sub hl [2, 3, 4, 5, 6] rfl)
        · exact absurd c_839 (by decide)
    · exact absurd c_822 (by decide)
set_option maxHeartbeats 4000000 in
set_option maxRecDepth 100000 in
theorem arm_send {pg : Program} {l : Launch} {ev : Env} {sv : State} {mi : MethodId} {ag : Array Value} {bl : List Frame} {mt : Method} {cd : Code} {H : Heap} {locs : List Loc} {cells slots : Nat} {Q : State → Prop} {ls : Array Slot} {D : va_G} {cI cL : ClassId} {A : Nat → Prop} {H0 : Heap} {b L : Nat} {xs : Nat → Int32} {h0 b0 b1 b2 m0 m1 p0 p1 p2 p3 p4 s0 s1 s2 s3 s4 q0 y0 y1 y2 y3 y4 y5 o sgB i : Nat} (hCx : LCx pg l sv mi ag cd D cI cL A H0 b L xs [h0, b0, b1, b2, m0, m1, p0, p1, p2, p3, p4, s0, s1, s2, s3, s4, q0, y0, y1, y2, y3, y4, y5, o]) (hI : LInv D cI cL h0 b0 b1 b2 m0 m1 p0 p1 p2 p3 p4 s0 s1 s2 s3 s4 q0 y0 y1 y2 y3 y4 y5 o sgB H) (hS : va_S A H0 H locs) (hl : lv_has ls 9 [(0, .ref b), (1, .ref h0), (2, .ref y0), (3, .ref o), (4, .int (nI i))]) (hi : i + 5 ≤ L) (hsB : sgB ≤ 59000) (hcc : cells + 1 ≤ 601024) (hss : slots + 18 ≤ 7293034)
    (kk : ∀ (H1 : Heap) (locs1 : List Loc) (ls1 : Array Slot), LInv D cI cL h0 b0 b1 b2 m0 m1 p0 p1 p2 p3 p4 s0 s1 s2 s3 s4 q0 y0 y1 y2 y3 y4 y5 o (sgB + 96) H1 → va_S A H0 H1 locs1 → lv_has ls1 9 [(0, .ref b), (1, .ref h0), (2, .ref y0), (3, .ref o), (4, .int (nI i))] → W pg l ev room_1 sv mi ag bl mt cd H1 locs1 (cells + 1) (slots + 18) Q (F0 mi 1119 ls1 [])) : W pg l ev room_1 sv mi ag bl mt cd H locs cells slots Q (F0 mi 847 ls []) := by
  obtain ⟨hx, hb, hml, hts, hown, hKL, hE, hlt, hX, hbl, hbA, hT0, hL9, hD, hA⟩ := hCx
  obtain ⟨q, sg, rp, lo, ea, T, Lf, k, t, n, f, lf, C, ps, cnt, fs, lfs, Cs, pss, cnts, se, gf, ak, gn, th, K, Lm, f9, C9, go, ak9, gn9, gf9, fo, hP, hk, hn, ht, hq, hsg0, hPC, hCR, hKD⟩ := hI
  have hP : va_P D vwCl [(h0, .inr (4, [.ref b0, .ref m0, .ref p0, .ref s0, .ref q0, .int (nI q), .int (nI sg), .int rp, .int lo, .int ea])), (b0, .inr (0, [.ref b1, .ref b2, .int (nI k)])), (b1, .inl (cI, 32, .inl T)), (b2, .inl (cI, 8, .inl (nA Lf))), (m0, .inr (1, [.ref m1, .int (nI n)])), (m1, .inl (cI, 24, .inl (nA t))), (p0, .inr (2, [.ref p1, .ref p2, .ref p3, .ref p4, .int (nI cnt)])), (p1, .inl (cI, 25, .inl (nA f))), (p2, .inl (cI, 24, .inl (nA lf))), (p3, .inl (cI, 24, .inl C)), (p4, .inl (cI, 24, .inl (nA ps))), (s0, .inr (2, [.ref s1, .ref s2, .ref s3, .ref s4, .int (nI cnts)])), (s1, .inl (cI, 25, .inl (nA fs))), (s2, .inl (cI, 24, .inl (nA lfs))), (s3, .inl (cI, 24, .inl Cs)), (s4, .inl (cI, 24, .inl (nA pss))), (q0, .inr (3, [.int (nI se), .int (nI gf), .int (nI ak), .int (nI gn)])), (y0, .inr (5, [.int (nI th), .int (nI k), .ref y1, .ref y2, .int (nI n), .ref y3, .int (nI q), .int (nI sg), .int rp, .int lo, .int ea, .ref y4, .ref y5, .int (nI go), .int (nI ak9), .int (nI gn9), .int (nI gf9)])), (y1, .inl (cI, 9, .inl K)), (y2, .inl (cI, 9, .inl (nA Lm))), (y3, .inl (cI, 24, .inl (nA t))), (y4, .inl (cI, 25, .inl (nA f9))), (y5, .inl (cI, 24, .inl C9)), (o, .inl (cL, 1, .inr (.inl fo)))] H := hP
  have hK := hKL.sub (tys' := [(cI, .int)]) [0] rfl
  have hT := zT.kept hT0 (fun a h1 h2 => hS.2.1 a h1 h2)
  have hL := cr_L hCR
  have hLk := cr_Lm hCR
  have hKk := cr_K hCR
  have hsg : sg ≤ 60000 := by omega
  have hst : ∀ g, g < cnt → ps g < n := fun g hg => by rw [(hPC.2.1 g hg).1]; exact (hPC.2.1 g hg).2
  have hcnt : cnt ≤ 24 := Nat.le_trans hPC.2.2.2 hn
  have hps : ∀ j, j < cnt → ps j < 24 := fun j hj => Nat.lt_of_lt_of_le (hst j hj) hn
  have hc0 : cells ≤ room_1.cells := Nat.le_trans (Nat.le_succ _) hcc
  have hs0 : slots ≤ room_1.slots := Nat.le_trans (Nat.le_add_right _ _) hss
  have hs6 : slots + 6 ≤ room_1.slots := Nat.le_trans (Nat.add_le_add_left (by decide) _) hss
  have hg9 := cr_g ht hCR hKD hPC
  refine lv_aload_n hx hb dL_law_847 rfl (lv_at hl 1 rfl) ?_
  refine lv_aload_n hx hb dL_law_848 rfl (lv_at hl 3 rfl) ?_
  refine z_lxS (As := [.ref h0, .ref o]) (rest := []) ⟨hx, hb, hml, hown, hts⟩ (c_L_send l D cI cL o fo h0 b0 m0 p0 s0 q0 q sg rp lo ea p1 p2 p3 p4 f lf C ps cnt m1 t n b1 b2 T Lf k se gf ak gn (by first | assumption | omega) (by first | assumption | omega) (by first | assumption | omega) (by first | assumption | omega) (by first | assumption | omega) (by first | assumption | omega) (by first | assumption | omega) (by first | assumption | omega) hlt) (vx_cwSW 2 hts gL_law_L_send rfl rfl rfl hd_L_send ⟨Nat.le_of_ble_eq_true rfl, Nat.le_of_ble_eq_true rfl⟩) ⟨hKL, hE⟩ hP hD rfl hS hT [0, 6, 7, 8, 9, 10, 4, 5, 1, 2, 3, 16, 23] (by decide) rfl (fun u => by rcases u with _ | u <;> rfl) rfl hl.1 rfl (Nat.le_of_ble_eq_true rfl) dL_law_849 hcc hs6 (fun v9 u9 H locs hp hP hS hk9 => ?_)
  rcases u9 with _ | ⟨u9, r9⟩
  · obtain ⟨E9, ⟨rfl, hcond⟩, rfl⟩ := hp
    have hP : va_P D vwCl [(h0, .inr (4, [.ref b0, .ref m0, .ref p0, .ref s0, .ref q0, .int (nI q), .int (nI sg), .int rp, .int lo, .int ea])), (b0, .inr (0, [.ref b1, .ref b2, .int (nI k)])), (b1, .inl (cI, 32, .inl T)), (b2, .inl (cI, 8, .inl (nA Lf))), (m0, .inr (1, [.ref m1, .int (nI n)])), (m1, .inl (cI, 24, .inl (nA t))), (p0, .inr (2, [.ref p1, .ref p2, .ref p3, .ref p4, .int (nI cnt)])), (p1, .inl (cI, 25, .inl (nA f))), (p2, .inl (cI, 24, .inl (nA lf))), (p3, .inl (cI, 24, .inl C)), (p4, .inl (cI, 24, .inl (nA ps))), (s0, .inr (2, [.ref s1, .ref s2, .ref s3, .ref s4, .int (nI cnts)])), (s1, .inl (cI, 25, .inl (nA fs))), (s2, .inl (cI, 24, .inl (nA lfs))), (s3, .inl (cI, 24, .inl Cs)), (s4, .inl (cI, 24, .inl (nA pss))), (q0, .inr (3, [.int (nI se), .int (nI gf), .int (nI ak), .int (nI gn)])), (y0, .inr (5, [.int (nI th), .int (nI k), .ref y1, .ref y2, .int (nI n), .ref y3, .int (nI q), .int (nI sg), .int rp, .int lo, .int ea, .ref y4, .ref y5, .int (nI go), .int (nI ak9), .int (nI gn9), .int (nI gf9)])), (y1, .inl (cI, 9, .inl K)), (y2, .inl (cI, 9, .inl (nA Lm))), (y3, .inl (cI, 24, .inl (nA t))), (y4, .inl (cI, 25, .inl (nA f9))), (y5, .inl (cI, 24, .inl C9)), (o, .inl (cL, 1, .inr (.inl fo)))] H := hP
    refine W.eq (g2 := F0 mi 852 ls [.int (nI 1)]) rfl ?_
    refine lv_istore (lv' := [(5, .int (nI 1)), (0, .ref b), (1, .ref h0), (2, .ref y0), (3, .ref o), (4, .int (nI i))]) hx hb dL_law_852 hl (by decide) rfl (fun ls hl => ?_)
    refine lv_aload_n hx hb dL_law_854 rfl (lv_at hl 3 rfl) ?_
    refine z_muV (As := []) (rest := []) ⟨hx, hb, hml, hown, hts⟩ (c_X5_send l D cI y0 y1 y2 y3 y4 y5 th k n q sg rp lo ea go ak9 gn9 gf9 K Lm t f9 C9 (by first | assumption | omega) (by first | assumption | omega) (by first | assumption | omega) (by first | assumption | omega) (by first | assumption | omega) (by first | assumption | omega) (by first | assumption | omega)) (cwV 0 hts gL_law_X5_send rfl rfl rfl hd_X5_send ⟨Nat.le_of_ble_eq_true rfl, Nat.le_of_ble_eq_true rfl⟩) ⟨hK, hE⟩ hP hD rfl hS [17, 18, 19, 20, 21, 22] (by decide) rfl (fun _ => rfl) (va_recv hK hP (ci := 5) (q0 := 17) rfl rfl) rfl hl.1 rfl (Nat.le_of_ble_eq_true rfl) dL_law_855 hcc hs6 (fun v9 u9 H locs hp hP hS => ?_)
    obtain ⟨th2_855, n2_855, sg2_855, rp2_855, lo2_855, ea2_855, r_855, f2_855, C2_855, go2_855, ak2_855, gn2_855, gf2_855⟩ := u9
    obtain ⟨rfl, hd_855⟩ := hp
    try dsimp only at hd_855
    have hP : va_P D vwCl [(h0, .inr (4, [.ref b0, .ref m0, .ref p0, .ref s0, .ref q0, .int (nI q), .int (nI sg), .int rp, .int lo, .int ea])), (b0, .inr (0, [.ref b1, .ref b2, .int (nI k)])), (b1, .inl (cI, 32, .inl T)), (b2, .inl (cI, 8, .inl (nA Lf))), (m0, .inr (1, [.ref m1, .int (nI n)])), (m1, .inl (cI, 24, .inl (nA t))), (p0, .inr (2, [.ref p1, .ref p2, .ref p3, .ref p4, .int (nI cnt)])), (p1, .inl (cI, 25, .inl (nA f))), (p2, .inl (cI, 24, .inl (nA lf))), (p3, .inl (cI, 24, .inl C)), (p4, .inl (cI, 24, .inl (nA ps))), (s0, .inr (2, [.ref s1, .ref s2, .ref s3, .ref s4, .int (nI cnts)])), (s1, .inl (cI, 25, .inl (nA fs))), (s2, .inl (cI, 24, .inl (nA lfs))), (s3, .inl (cI, 24, .inl Cs)), (s4, .inl (cI, 24, .inl (nA pss))), (q0, .inr (3, [.int (nI se), .int (nI gf), .int (nI ak), .int (nI gn)])), (y0, .inr (5, [.int (nI th2_855), .int (nI k), .ref y1, .ref y2, .int (nI n2_855), .ref y3, .int (nI q), .int (nI sg2_855), .int rp2_855, .int lo2_855, .int ea2_855, .ref y4, .ref y5, .int (nI go2_855), .int (nI ak2_855), .int (nI gn2_855), .int (nI gf2_855)])), (y1, .inl (cI, 9, .inl K)), (y2, .inl (cI, 9, .inl (nA Lm))), (y3, .inl (cI, 24, .inl (nA t))), (y4, .inl (cI, 25, .inl (nA f2_855))), (y5, .inl (cI, 24, .inl C2_855)), (o, .inl (cL, 1, .inr (.inl fo)))] H := hP
    refine W.eq (g2 := F0 mi 858 ls [.int r_855]) rfl ?_
    rw [← hg9, ← cr_ct ht hCR hKD hPC] at hd_855
    obtain ⟨-, z1, z2, z3, z4, z5, z6, z7⟩ := hd_855.resolve_left (fun z => by have := z.1; omega)
    replace z1 := z1.symm
    subst z1
    replace z2 := z2.symm
    subst z2
    replace z3 := z3.symm
    subst z3
    replace z4 := z4.symm
    subst z4
    replace z5 := z5.symm
    subst z5
    replace z6 := z6.symm
    subst z6
    replace z7 := z7.symm
    subst z7
    have hP : va_P D vwCl [(h0, .inr (4, [.ref b0, .ref m0, .ref p0, .ref s0, .ref q0, .int (nI q), .int (nI sg), .int rp, .int lo, .int ea])), (b0, .inr (0, [.ref b1, .ref b2, .int (nI k)])), (b1, .inl (cI, 32, .inl T)), (b2, .inl (cI, 8, .inl (nA Lf))), (m0, .inr (1, [.ref m1, .int (nI n)])), (m1, .inl (cI, 24, .inl (nA t))), (p0, .inr (2, [.ref p1, .ref p2, .ref p3, .ref p4, .int (nI cnt)])), (p1, .inl (cI, 25, .inl (nA f))), (p2, .inl (cI, 24, .inl (nA lf))), (p3, .inl (cI, 24, .inl C)), (p4, .inl (cI, 24, .inl (nA ps))), (s0, .inr (2, [.ref s1, .ref s2, .ref s3, .ref s4, .int (nI cnts)])), (s1, .inl (cI, 25, .inl (nA fs))), (s2, .inl (cI, 24, .inl (nA lfs))), (s3, .inl (cI, 24, .inl Cs)), (s4, .inl (cI, 24, .inl (nA pss))), (q0, .inr (3, [.int (nI se), .int (nI gf), .int (nI ak), .int (nI gn)])), (y0, .inr (5, [.int (nI 1), .int (nI k), .ref y1, .ref y2, .int (nI n), .ref y3, .int (nI q), .int (nI sg), .int rp, .int lo, .int ea, .ref y4, .ref y5, .int (nI go2_855), .int (nI ak2_855), .int (nI gn2_855), .int (nI gf2_855)])), (y1, .inl (cI, 9, .inl K)), (y2, .inl (cI, 9, .inl (nA Lm))), (y3, .inl (cI, 24, .inl (nA t))), (y4, .inl (cI, 25, .inl (nA f2_855))), (y5, .inl (cI, 24, .inl C2_855)), (o, .inl (cL, 1, .inr (.inl fo)))] H := hP
    refine lv_istore (lv' := [(6, .int (nI 0)), (5, .int (nI 1)), (0, .ref b), (1, .ref h0), (2, .ref y0), (3, .ref o), (4, .int (nI i))]) hx hb dL_law_858 hl (by decide) rfl (fun ls hl => ?_)
    refine lv_aload_n hx hb dL_law_860 rfl (lv_at hl 4 rfl) ?_
    refine z_roV (As := []) (rest := []) ⟨hx, hb, hml, hown, hts⟩ (c_X5_thrown l D cI y0 y1 y2 y3 y4 y5 1 k n q sg rp lo ea go2_855 ak2_855 gn2_855 gf2_855) (cwV 0 hts gL_law_X5_thrown rfl rfl rfl hd_X5_thrown ⟨Nat.le_of_ble_eq_true rfl, Nat.le_of_ble_eq_true rfl⟩) ⟨hK, hE⟩ (hP.sub (ws' := [(y0, .inr (5, [.int (nI 1), .int (nI k), .ref y1, .ref y2, .int (nI n), .ref y3, .int (nI q), .int (nI sg), .int rp, .int lo, .int ea, .ref y4, .ref y5, .int (nI go2_855), .int (nI ak2_855), .int (nI gn2_855), .int (nI gf2_855)]))]) [17] rfl) (va_recv hK hP (ci := 5) (q0 := 17) rfl rfl) rfl hl.1 rfl (Nat.le_of_ble_eq_true rfl) dL_law_861 hcc hs6 ?_
    refine lv_iload hx hb dL_law_864 (lv_at hl 1 rfl) ?_
    refine z_icmp_eq (tgt := 871) hx hb dL_law_866 (by decide) (by omega) (by omega) (fun c_866 => ?_) (fun c_866 => ?_)
    · refine lv_iload hx hb dL_law_871 (lv_at hl 1 rfl) ?_
      refine z_if_ne (tgt := 888) hx hb dL_law_873 (by decide) (by omega) (fun c_873 => ?_) (fun c_873 => ?_)
      · refine lv_goto (tgt := 1119) hx hb dL_law_888 (by decide) ?_
        refine W.widen (k := cells + 1) (n := slots + 18) (by omega) (by omega) ?_
        exact kk H locs ls ⟨q, sg, rp, lo, ea, T, Lf, k, t, n, f, lf, C, ps, cnt, fs, lfs, Cs, pss, cnts, se, gf, ak, gn, 1, K, Lm, f2_855, C2_855, go2_855, ak2_855, gn2_855, gf2_855, fo, hP, (by omega), (by omega), ht, hq, (by omega), hPC, hCR, hKD⟩ hS (lv_sub hl [2, 3, 4, 5, 6] rfl)
      · exact absurd c_873 (by decide)
    · exact absurd c_866 (by decide)
  · obtain ⟨f2_849, lf2_849, C2_849, ps2_849, cnt2_849⟩ := u9
    obtain ⟨rfl, hr9, hn0_849, hpart_849⟩ := hp
    try dsimp only at hr9
    have hr8 := (Value.int.inj (Option.some.inj hr9)).symm
    subst hr8
    try dsimp only at hn0_849 hpart_849
    have hP : va_P D vwCl [(h0, .inr (4, [.ref b0, .ref m0, .ref p0, .ref s0, .ref q0, .int (nI q), .int (nI (seN q sg cnt)), .int (rp + nI (akN q sg cnt)), .int (lo + nI (gnN q sg cnt)), .int (ea + nI (costN n (sN (ctW C ps t) cnt)))])), (b0, .inr (0, [.ref b1, .ref b2, .int (nI k)])), (b1, .inl (cI, 32, .inl T)), (b2, .inl (cI, 8, .inl (nA Lf))), (m0, .inr (1, [.ref m1, .int (nI 0)])), (m1, .inl (cI, 24, .inl (nA t))), (p0, .inr (2, [.ref p1, .ref p2, .ref p3, .ref p4, .int (nI cnt2_849)])), (p1, .inl (cI, 25, .inl (nA f2_849))), (p2, .inl (cI, 24, .inl (nA lf2_849))), (p3, .inl (cI, 24, .inl C2_849)), (p4, .inl (cI, 24, .inl (nA ps2_849))), (s0, .inr (2, [.ref s1, .ref s2, .ref s3, .ref s4, .int (nI cnts)])), (s1, .inl (cI, 25, .inl (nA fs))), (s2, .inl (cI, 24, .inl (nA lfs))), (s3, .inl (cI, 24, .inl Cs)), (s4, .inl (cI, 24, .inl (nA pss))), (q0, .inr (3, [.int (nI (seN q sg cnt)), .int (nI (gfN q sg cnt)), .int (nI (akN q sg cnt)), .int (nI (gnN q sg cnt))])), (y0, .inr (5, [.int (nI th), .int (nI k), .ref y1, .ref y2, .int (nI n), .ref y3, .int (nI q), .int (nI sg), .int rp, .int lo, .int ea, .ref y4, .ref y5, .int (nI go), .int (nI ak9), .int (nI gn9), .int (nI gf9)])), (y1, .inl (cI, 9, .inl K)), (y2, .inl (cI, 9, .inl (nA Lm))), (y3, .inl (cI, 24, .inl (nA t))), (y4, .inl (cI, 25, .inl (nA f9))), (y5, .inl (cI, 24, .inl C9)), (o, .inl (cL, 1, .inr (.inl (vp_updL fo 0 ((nI (gnN q sg cnt)).toInt64)))))] H := hP
    refine W.eq (g2 := F0 mi 852 ls [.int (nI 0)]) rfl ?_
    refine lv_istore (lv' := [(5, .int (nI 0)), (0, .ref b), (1, .ref h0), (2, .ref y0), (3, .ref o), (4, .int (nI i))]) hx hb dL_law_852 hl (by decide) rfl (fun ls hl => ?_)
    refine lv_aload_n hx hb dL_law_854 rfl (lv_at hl 3 rfl) ?_
    refine z_muV (As := []) (rest := []) ⟨hx, hb, hml, hown, hts⟩ (c_X5_send l D cI y0 y1 y2 y3 y4 y5 th k n q sg rp lo ea go ak9 gn9 gf9 K Lm t f9 C9 (by first | assumption | omega) (by first | assumption | omega) (by first | assumption | omega) (by first | assumption | omega) (by first | assumption | omega) (by first | assumption | omega) (by first | assumption | omega)) (cwV 0 hts gL_law_X5_send rfl rfl rfl hd_X5_send ⟨Nat.le_of_ble_eq_true rfl, Nat.le_of_ble_eq_true rfl⟩) ⟨hK, hE⟩ hP hD rfl hS [17, 18, 19, 20, 21, 22] (by decide) rfl (fun _ => rfl) (va_recv hK hP (ci := 5) (q0 := 17) rfl rfl) rfl hl.1 rfl (Nat.le_of_ble_eq_true rfl) dL_law_855 hcc hs6 (fun v9 u9 H locs hp hP hS => ?_)
    obtain ⟨th2_855, n2_855, sg2_855, rp2_855, lo2_855, ea2_855, r_855, f2_855, C2_855, go2_855, ak2_855, gn2_855, gf2_855⟩ := u9
    obtain ⟨rfl, hd_855⟩ := hp
    try dsimp only at hd_855
    have hP : va_P D vwCl [(h0, .inr (4, [.ref b0, .ref m0, .ref p0, .ref s0, .ref q0, .int (nI q), .int (nI (seN q sg cnt)), .int (rp + nI (akN q sg cnt)), .int (lo + nI (gnN q sg cnt)), .int (ea + nI (costN n (sN (ctW C ps t) cnt)))])), (b0, .inr (0, [.ref b1, .ref b2, .int (nI k)])), (b1, .inl (cI, 32, .inl T)), (b2, .inl (cI, 8, .inl (nA Lf))), (m0, .inr (1, [.ref m1, .int (nI 0)])), (m1, .inl (cI, 24, .inl (nA t))), (p0, .inr (2, [.ref p1, .ref p2, .ref p3, .ref p4, .int (nI cnt2_849)])), (p1, .inl (cI, 25, .inl (nA f2_849))), (p2, .inl (cI, 24, .inl (nA lf2_849))), (p3, .inl (cI, 24, .inl C2_849)), (p4, .inl (cI, 24, .inl (nA ps2_849))), (s0, .inr (2, [.ref s1, .ref s2, .ref s3, .ref s4, .int (nI cnts)])), (s1, .inl (cI, 25, .inl (nA fs))), (s2, .inl (cI, 24, .inl (nA lfs))), (s3, .inl (cI, 24, .inl Cs)), (s4, .inl (cI, 24, .inl (nA pss))), (q0, .inr (3, [.int (nI (seN q sg cnt)), .int (nI (gfN q sg cnt)), .int (nI (akN q sg cnt)), .int (nI (gnN q sg cnt))])), (y0, .inr (5, [.int (nI th2_855), .int (nI k), .ref y1, .ref y2, .int (nI n2_855), .ref y3, .int (nI q), .int (nI sg2_855), .int rp2_855, .int lo2_855, .int ea2_855, .ref y4, .ref y5, .int (nI go2_855), .int (nI ak2_855), .int (nI gn2_855), .int (nI gf2_855)])), (y1, .inl (cI, 9, .inl K)), (y2, .inl (cI, 9, .inl (nA Lm))), (y3, .inl (cI, 24, .inl (nA t))), (y4, .inl (cI, 25, .inl (nA f2_855))), (y5, .inl (cI, 24, .inl C2_855)), (o, .inl (cL, 1, .inr (.inl (vp_updL fo 0 ((nI (gnN q sg cnt)).toInt64)))))] H := hP
    refine W.eq (g2 := F0 mi 858 ls [.int r_855]) rfl ?_
    rw [← hg9, ← cr_ct ht hCR hKD hPC] at hd_855
    obtain ⟨-, z1, z2, z3, z4, z5, z6, z7⟩ := hd_855.resolve_right (fun z => by have := z.1; omega)
    replace z1 := z1.symm
    subst z1
    replace z2 := z2.symm
    subst z2
    replace z3 := z3.symm
    subst z3
    replace z4 := z4.symm
    subst z4
    replace z5 := z5.symm
    subst z5
    replace z6 := z6.symm
    subst z6
    replace z7 := z7.symm
    subst z7
    have hse := seN_le q sg cnt
    have hP : va_P D vwCl [(h0, .inr (4, [.ref b0, .ref m0, .ref p0, .ref s0, .ref q0, .int (nI q), .int (nI (seN q sg cnt)), .int (rp + nI (akN q sg cnt)), .int (lo + nI (gnN q sg cnt)), .int (ea + nI (costN n (sN (ctW C ps t) cnt)))])), (b0, .inr (0, [.ref b1, .ref b2, .int (nI k)])), (b1, .inl (cI, 32, .inl T)), (b2, .inl (cI, 8, .inl (nA Lf))), (m0, .inr (1, [.ref m1, .int (nI 0)])), (m1, .inl (cI, 24, .inl (nA t))), (p0, .inr (2, [.ref p1, .ref p2, .ref p3, .ref p4, .int (nI cnt2_849)])), (p1, .inl (cI, 25, .inl (nA f2_849))), (p2, .inl (cI, 24, .inl (nA lf2_849))), (p3, .inl (cI, 24, .inl C2_849)), (p4, .inl (cI, 24, .inl (nA ps2_849))), (s0, .inr (2, [.ref s1, .ref s2, .ref s3, .ref s4, .int (nI cnts)])), (s1, .inl (cI, 25, .inl (nA fs))), (s2, .inl (cI, 24, .inl (nA lfs))), (s3, .inl (cI, 24, .inl Cs)), (s4, .inl (cI, 24, .inl (nA pss))), (q0, .inr (3, [.int (nI (seN q sg cnt)), .int (nI (gfN q sg cnt)), .int (nI (akN q sg cnt)), .int (nI (gnN q sg cnt))])), (y0, .inr (5, [.int (nI 0), .int (nI k), .ref y1, .ref y2, .int (nI 0), .ref y3, .int (nI q), .int (nI (seN q sg cnt)), .int (rp + nI (akN q sg cnt)), .int (lo + nI (gnN q sg cnt)), .int (ea + nI (costN n (sN (ctW C ps t) cnt))), .ref y4, .ref y5, .int (nI go2_855), .int (nI ak2_855), .int (nI gn2_855), .int (nI gf2_855)])), (y1, .inl (cI, 9, .inl K)), (y2, .inl (cI, 9, .inl (nA Lm))), (y3, .inl (cI, 24, .inl (nA t))), (y4, .inl (cI, 25, .inl (nA f2_855))), (y5, .inl (cI, 24, .inl C2_855)), (o, .inl (cL, 1, .inr (.inl (vp_updL fo 0 ((nI (gnN q sg cnt)).toInt64)))))] H := hP
    refine lv_istore (lv' := [(6, .int (nI (gnN q sg cnt))), (5, .int (nI 0)), (0, .ref b), (1, .ref h0), (2, .ref y0), (3, .ref o), (4, .int (nI i))]) hx hb dL_law_858 hl (by decide) rfl (fun ls hl => ?_)
    refine lv_aload_n hx hb dL_law_860 rfl (lv_at hl 4 rfl) ?_
    refine z_roV (As := []) (rest := []) ⟨hx, hb, hml, hown, hts⟩ (c_X5_thrown l D cI y0 y1 y2 y3 y4 y5 0 k 0 q (seN q sg cnt) (rp + nI (akN q sg cnt)) (lo + nI (gnN q sg cnt)) (ea + nI (costN n (sN (ctW C ps t) cnt))) go2_855 ak2_855 gn2_855 gf2_855) (cwV 0 hts gL_law_X5_thrown rfl rfl rfl hd_X5_thrown ⟨Nat.le_of_ble_eq_true rfl, Nat.le_of_ble_eq_true rfl⟩) ⟨hK, hE⟩ (hP.sub (ws' := [(y0, .inr (5, [.int (nI 0), .int (nI k), .ref y1, .ref y2, .int (nI 0), .ref y3, .int (nI q), .int (nI (seN q sg cnt)), .int (rp + nI (akN q sg cnt)), .int (lo + nI (gnN q sg cnt)), .int (ea + nI (costN n (sN (ctW C ps t) cnt))), .ref y4, .ref y5, .int (nI go2_855), .int (nI ak2_855), .int (nI gn2_855), .int (nI gf2_855)]))]) [17] rfl) (va_recv hK hP (ci := 5) (q0 := 17) rfl rfl) rfl hl.1 rfl (Nat.le_of_ble_eq_true rfl) dL_law_861 hcc hs6 ?_
    refine lv_iload hx hb dL_law_864 (lv_at hl 1 rfl) ?_
    refine z_icmp_eq (tgt := 871) hx hb dL_law_866 (by decide) (by omega) (by omega) (fun c_866 => ?_) (fun c_866 => ?_)
    · refine lv_iload hx hb dL_law_871 (lv_at hl 1 rfl) ?_
      refine z_if_ne (tgt := 888) hx hb dL_law_873 (by decide) (by omega) (fun c_873 => ?_) (fun c_873 => ?_)
      · exact absurd c_873 (by decide)
      · refine lv_aload_n hx hb dL_law_876 rfl (lv_at hl 5 rfl) ?_
        refine lv_iconst (v := nI 0) hx hb dL_law_877 ci_0 ?_
        refine z_lald0 hx hb hKL hP 23 rfl dL_law_878 ?_
        refine lv_iload hx hb dL_law_879 (lv_at hl 0 rfl) ?_
        refine lv_i2l hx hb dL_law_881 rfl ?_
        refine z_lcmpS hx hb (vp0.trans (congrArg Int32.toInt64 (rfl))) dL_law_882 ?_
        refine z_if_eq (tgt := 888) hx hb dL_law_883 (by decide) (by omega) (fun c_883 => ?_) (fun c_883 => ?_)
        · refine lv_goto (tgt := 1119) hx hb dL_law_888 (by decide) ?_
          refine W.widen (k := cells + 1) (n := slots + 18) (by omega) (by omega) ?_
          exact kk H locs ls ⟨q, seN q sg cnt, rp + nI (akN q sg cnt), lo + nI (gnN q sg cnt), ea + nI (costN n (sN (ctW C ps t) cnt)), T, Lf, k, t, 0, f2_849, lf2_849, C2_849, ps2_849, cnt2_849, fs, lfs, Cs, pss, cnts, seN q sg cnt, gfN q sg cnt, akN q sg cnt, gnN q sg cnt, 0, K, Lm, f2_855, C2_855, go2_855, ak2_855, gn2_855, gf2_855, (vp_updL fo 0 ((nI (gnN q sg cnt)).toInt64)), hP, (by omega), (by omega), (fun j hj => absurd hj (Nat.not_lt_zero _)), hq, (by omega), hpart_849, hCR, hKD⟩ hS (lv_sub hl [2, 3, 4, 5, 6] rfl)
        · exact absurd c_883 (by decide)
    · exact absurd c_866 (by decide)
set_option maxHeartbeats 4000000 in
set_option maxRecDepth 100000 in
theorem arm_bestNewCode {pg : Program} {l : Launch} {ev : Env} {sv : State} {mi : MethodId} {ag : Array Value} {bl : List Frame} {mt : Method} {cd : Code} {H : Heap} {locs : List Loc} {cells slots : Nat} {Q : State → Prop} {ls : Array Slot} {D : va_G} {cI cL : ClassId} {A : Nat → Prop} {H0 : Heap} {b L : Nat} {xs : Nat → Int32} {h0 b0 b1 b2 m0 m1 p0 p1 p2 p3 p4 s0 s1 s2 s3 s4 q0 y0 y1 y2 y3 y4 y5 o sgB i : Nat} (hCx : LCx pg l sv mi ag cd D cI cL A H0 b L xs [h0, b0, b1, b2, m0, m1, p0, p1, p2, p3, p4, s0, s1, s2, s3, s4, q0, y0, y1, y2, y3, y4, y5, o]) (hI : LInv D cI cL h0 b0 b1 b2 m0 m1 p0 p1 p2 p3 p4 s0 s1 s2 s3 s4 q0 y0 y1 y2 y3 y4 y5 o sgB H) (hS : va_S A H0 H locs) (hl : lv_has ls 9 [(0, .ref b), (1, .ref h0), (2, .ref y0), (3, .ref o), (4, .int (nI i))]) (hi : i + 5 ≤ L) (hsB : sgB ≤ 59000) (hcc : cells + 1 ≤ 601024) (hss : slots + 18 ≤ 7293034)
    (kk : ∀ (H1 : Heap) (locs1 : List Loc) (ls1 : Array Slot), LInv D cI cL h0 b0 b1 b2 m0 m1 p0 p1 p2 p3 p4 s0 s1 s2 s3 s4 q0 y0 y1 y2 y3 y4 y5 o (sgB + 96) H1 → va_S A H0 H1 locs1 → lv_has ls1 9 [(0, .ref b), (1, .ref h0), (2, .ref y0), (3, .ref o), (4, .int (nI i))] → W pg l ev room_1 sv mi ag bl mt cd H1 locs1 (cells + 1) (slots + 18) Q (F0 mi 1119 ls1 [])) : W pg l ev room_1 sv mi ag bl mt cd H locs cells slots Q (F0 mi 1008 ls []) := by
  obtain ⟨hx, hb, hml, hts, hown, hKL, hE, hlt, hX, hbl, hbA, hT0, hL9, hD, hA⟩ := hCx
  obtain ⟨q, sg, rp, lo, ea, T, Lf, k, t, n, f, lf, C, ps, cnt, fs, lfs, Cs, pss, cnts, se, gf, ak, gn, th, K, Lm, f9, C9, go, ak9, gn9, gf9, fo, hP, hk, hn, ht, hq, hsg0, hPC, hCR, hKD⟩ := hI
  have hP : va_P D vwCl [(h0, .inr (4, [.ref b0, .ref m0, .ref p0, .ref s0, .ref q0, .int (nI q), .int (nI sg), .int rp, .int lo, .int ea])), (b0, .inr (0, [.ref b1, .ref b2, .int (nI k)])), (b1, .inl (cI, 32, .inl T)), (b2, .inl (cI, 8, .inl (nA Lf))), (m0, .inr (1, [.ref m1, .int (nI n)])), (m1, .inl (cI, 24, .inl (nA t))), (p0, .inr (2, [.ref p1, .ref p2, .ref p3, .ref p4, .int (nI cnt)])), (p1, .inl (cI, 25, .inl (nA f))), (p2, .inl (cI, 24, .inl (nA lf))), (p3, .inl (cI, 24, .inl C)), (p4, .inl (cI, 24, .inl (nA ps))), (s0, .inr (2, [.ref s1, .ref s2, .ref s3, .ref s4, .int (nI cnts)])), (s1, .inl (cI, 25, .inl (nA fs))), (s2, .inl (cI, 24, .inl (nA lfs))), (s3, .inl (cI, 24, .inl Cs)), (s4, .inl (cI, 24, .inl (nA pss))), (q0, .inr (3, [.int (nI se), .int (nI gf), .int (nI ak), .int (nI gn)])), (y0, .inr (5, [.int (nI th), .int (nI k), .ref y1, .ref y2, .int (nI n), .ref y3, .int (nI q), .int (nI sg), .int rp, .int lo, .int ea, .ref y4, .ref y5, .int (nI go), .int (nI ak9), .int (nI gn9), .int (nI gf9)])), (y1, .inl (cI, 9, .inl K)), (y2, .inl (cI, 9, .inl (nA Lm))), (y3, .inl (cI, 24, .inl (nA t))), (y4, .inl (cI, 25, .inl (nA f9))), (y5, .inl (cI, 24, .inl C9)), (o, .inl (cL, 1, .inr (.inl fo)))] H := hP
  have hK := hKL.sub (tys' := [(cI, .int)]) [0] rfl
  have hT := zT.kept hT0 (fun a h1 h2 => hS.2.1 a h1 h2)
  have hL := cr_L hCR
  have hLk := cr_Lm hCR
  have hKk := cr_K hCR
  have hsg : sg ≤ 60000 := by omega
  have hst : ∀ g, g < cnt → ps g < n := fun g hg => by rw [(hPC.2.1 g hg).1]; exact (hPC.2.1 g hg).2
  have hcnt : cnt ≤ 24 := Nat.le_trans hPC.2.2.2 hn
  have hps : ∀ j, j < cnt → ps j < 24 := fun j hj => Nat.lt_of_lt_of_le (hst j hj) hn
  have hc0 : cells ≤ room_1.cells := Nat.le_trans (Nat.le_succ _) hcc
  have hs0 : slots ≤ room_1.slots := Nat.le_trans (Nat.le_add_right _ _) hss
  have hs6 : slots + 6 ≤ room_1.slots := Nat.le_trans (Nat.add_le_add_left (by decide) _) hss
  have hg9 := cr_g ht hCR hKD hPC
  refine lv_aload_n hx hb dL_law_1008 rfl (lv_at hl 1 rfl) ?_
  refine lv_aload_n hx hb dL_law_1009 rfl (lv_at hl 0 rfl) ?_
  refine lv_iload hx hb dL_law_1010 (lv_at hl 4 rfl) ?_
  refine lv_iconst (v := nI 1) hx hb dL_law_1012 ci_1 ?_
  refine z_iadd hx hb dL_law_1013 ?_
  refine z_sld hx hb hX hbl hbA hS (by omega) (by omega) dL_law_1014 ?_
  refine lv_aload_n hx hb dL_law_1015 rfl (lv_at hl 3 rfl) ?_
  refine z_lxS (As := [.ref h0, .int (xs (i + 1)), .ref o]) (rest := []) ⟨hx, hb, hml, hown, hts⟩ (c_L_bestNewCode l D cI cL o fo h0 b0 m0 p0 s0 q0 q sg rp lo ea s1 s2 s3 s4 fs lfs Cs pss cnts m1 t n b1 b2 T Lf k (xs (i + 1)) (by first | assumption | omega) (by first | assumption | omega) (by first | assumption | omega) hlt) (vx_cwSW 3 hts gL_law_L_bestNewCode rfl rfl rfl hd_L_bestNewCode ⟨Nat.le_of_ble_eq_true rfl, Nat.le_of_ble_eq_true rfl⟩) ⟨hKL, hE⟩ hP hD rfl hS hT [0, 11, 12, 13, 14, 15, 4, 5, 1, 2, 3, 23] (by decide) rfl (fun u => by rcases u with _ | u <;> rfl) rfl hl.1 rfl (Nat.le_of_ble_eq_true rfl) dL_law_1016 hcc hs6 (fun v9 u9 H locs hp hP hS hk9 => ?_)
  rcases u9 with _ | ⟨u9, r9⟩
  · obtain ⟨E9, ⟨rfl, hcond⟩, rfl⟩ := hp
    have hP : va_P D vwCl [(h0, .inr (4, [.ref b0, .ref m0, .ref p0, .ref s0, .ref q0, .int (nI q), .int (nI sg), .int rp, .int lo, .int ea])), (b0, .inr (0, [.ref b1, .ref b2, .int (nI k)])), (b1, .inl (cI, 32, .inl T)), (b2, .inl (cI, 8, .inl (nA Lf))), (m0, .inr (1, [.ref m1, .int (nI n)])), (m1, .inl (cI, 24, .inl (nA t))), (p0, .inr (2, [.ref p1, .ref p2, .ref p3, .ref p4, .int (nI cnt)])), (p1, .inl (cI, 25, .inl (nA f))), (p2, .inl (cI, 24, .inl (nA lf))), (p3, .inl (cI, 24, .inl C)), (p4, .inl (cI, 24, .inl (nA ps))), (s0, .inr (2, [.ref s1, .ref s2, .ref s3, .ref s4, .int (nI cnts)])), (s1, .inl (cI, 25, .inl (nA fs))), (s2, .inl (cI, 24, .inl (nA lfs))), (s3, .inl (cI, 24, .inl Cs)), (s4, .inl (cI, 24, .inl (nA pss))), (q0, .inr (3, [.int (nI se), .int (nI gf), .int (nI ak), .int (nI gn)])), (y0, .inr (5, [.int (nI th), .int (nI k), .ref y1, .ref y2, .int (nI n), .ref y3, .int (nI q), .int (nI sg), .int rp, .int lo, .int ea, .ref y4, .ref y5, .int (nI go), .int (nI ak9), .int (nI gn9), .int (nI gf9)])), (y1, .inl (cI, 9, .inl K)), (y2, .inl (cI, 9, .inl (nA Lm))), (y3, .inl (cI, 24, .inl (nA t))), (y4, .inl (cI, 25, .inl (nA f9))), (y5, .inl (cI, 24, .inl C9)), (o, .inl (cL, 1, .inr (.inl fo)))] H := hP
    refine W.eq (g2 := F0 mi 1019 ls [.int (nI 1)]) rfl ?_
    refine lv_istore (lv' := [(5, .int (nI 1)), (0, .ref b), (1, .ref h0), (2, .ref y0), (3, .ref o), (4, .int (nI i))]) hx hb dL_law_1019 hl (by decide) rfl (fun ls hl => ?_)
    refine lv_aload_n hx hb dL_law_1021 rfl (lv_at hl 3 rfl) ?_
    refine lv_aload_n hx hb dL_law_1022 rfl (lv_at hl 1 rfl) ?_
    refine lv_iload hx hb dL_law_1023 (lv_at hl 5 rfl) ?_
    refine lv_iconst (v := nI 1) hx hb dL_law_1025 ci_1 ?_
    refine z_iadd hx hb dL_law_1026 ?_
    refine z_sld hx hb hX hbl hbA hS (by omega) (by omega) dL_law_1027 ?_
    refine z_muV (As := [.int (xs (i + 1))]) (rest := []) ⟨hx, hb, hml, hown, hts⟩ (c_X5_bestNewCode l D cI y0 y1 y2 y3 y4 y5 th k n q sg rp lo ea go ak9 gn9 gf9 K Lm t f9 C9 (xs (i + 1)) (by first | assumption | omega) (by first | assumption | omega) (by first | assumption | omega) (by first | assumption | omega) (by first | assumption | omega)) (cwV 1 hts gL_law_X5_bestNewCode rfl rfl rfl hd_X5_bestNewCode ⟨Nat.le_of_ble_eq_true rfl, Nat.le_of_ble_eq_true rfl⟩) ⟨hK, hE⟩ hP hD rfl hS [17, 18, 19, 20, 21, 22] (by decide) rfl (fun _ => rfl) (va_recv hK hP (ci := 5) (q0 := 17) rfl rfl) rfl hl.1 rfl (Nat.le_of_ble_eq_true rfl) dL_law_1028 hcc hs6 (fun v9 u9 H locs hp hP hS => ?_)
    obtain ⟨th2_1028, r_1028, K2_1028, Lm2_1028, f2_1028, C2_1028⟩ := u9
    obtain ⟨rfl, hd_1028, hKL_1028⟩ := hp
    try dsimp only at hd_1028 hKL_1028
    have hP : va_P D vwCl [(h0, .inr (4, [.ref b0, .ref m0, .ref p0, .ref s0, .ref q0, .int (nI q), .int (nI sg), .int rp, .int lo, .int ea])), (b0, .inr (0, [.ref b1, .ref b2, .int (nI k)])), (b1, .inl (cI, 32, .inl T)), (b2, .inl (cI, 8, .inl (nA Lf))), (m0, .inr (1, [.ref m1, .int (nI n)])), (m1, .inl (cI, 24, .inl (nA t))), (p0, .inr (2, [.ref p1, .ref p2, .ref p3, .ref p4, .int (nI cnt)])), (p1, .inl (cI, 25, .inl (nA f))), (p2, .inl (cI, 24, .inl (nA lf))), (p3, .inl (cI, 24, .inl C)), (p4, .inl (cI, 24, .inl (nA ps))), (s0, .inr (2, [.ref s1, .ref s2, .ref s3, .ref s4, .int (nI cnts)])), (s1, .inl (cI, 25, .inl (nA fs))), (s2, .inl (cI, 24, .inl (nA lfs))), (s3, .inl (cI, 24, .inl Cs)), (s4, .inl (cI, 24, .inl (nA pss))), (q0, .inr (3, [.int (nI se), .int (nI gf), .int (nI ak), .int (nI gn)])), (y0, .inr (5, [.int (nI th2_1028), .int (nI k), .ref y1, .ref y2, .int (nI n), .ref y3, .int (nI q), .int (nI sg), .int rp, .int lo, .int ea, .ref y4, .ref y5, .int (nI go), .int (nI ak9), .int (nI gn9), .int (nI gf9)])), (y1, .inl (cI, 9, .inl K2_1028)), (y2, .inl (cI, 9, .inl (nA Lm2_1028))), (y3, .inl (cI, 24, .inl (nA t))), (y4, .inl (cI, 25, .inl (nA f2_1028))), (y5, .inl (cI, 24, .inl C2_1028)), (o, .inl (cL, 1, .inr (.inl fo)))] H := hP
    refine W.eq (g2 := F0 mi 1031 ls [.int r_1028]) rfl ?_
    obtain ⟨-, z1, z2⟩ := hd_1028.resolve_left (fun ⟨j9, a1, a2, _⟩ => hcond ⟨j9, a1, a2⟩)
    replace z1 := z1.symm
    subst z1
    replace z2 := z2.symm
    subst z2
    have hP : va_P D vwCl [(h0, .inr (4, [.ref b0, .ref m0, .ref p0, .ref s0, .ref q0, .int (nI q), .int (nI sg), .int rp, .int lo, .int ea])), (b0, .inr (0, [.ref b1, .ref b2, .int (nI k)])), (b1, .inl (cI, 32, .inl T)), (b2, .inl (cI, 8, .inl (nA Lf))), (m0, .inr (1, [.ref m1, .int (nI n)])), (m1, .inl (cI, 24, .inl (nA t))), (p0, .inr (2, [.ref p1, .ref p2, .ref p3, .ref p4, .int (nI cnt)])), (p1, .inl (cI, 25, .inl (nA f))), (p2, .inl (cI, 24, .inl (nA lf))), (p3, .inl (cI, 24, .inl C)), (p4, .inl (cI, 24, .inl (nA ps))), (s0, .inr (2, [.ref s1, .ref s2, .ref s3, .ref s4, .int (nI cnts)])), (s1, .inl (cI, 25, .inl (nA fs))), (s2, .inl (cI, 24, .inl (nA lfs))), (s3, .inl (cI, 24, .inl Cs)), (s4, .inl (cI, 24, .inl (nA pss))), (q0, .inr (3, [.int (nI se), .int (nI gf), .int (nI ak), .int (nI gn)])), (y0, .inr (5, [.int (nI 1), .int (nI k), .ref y1, .ref y2, .int (nI n), .ref y3, .int (nI q), .int (nI sg), .int rp, .int lo, .int ea, .ref y4, .ref y5, .int (nI go), .int (nI ak9), .int (nI gn9), .int (nI gf9)])), (y1, .inl (cI, 9, .inl K2_1028)), (y2, .inl (cI, 9, .inl (nA Lm2_1028))), (y3, .inl (cI, 24, .inl (nA t))), (y4, .inl (cI, 25, .inl (nA f2_1028))), (y5, .inl (cI, 24, .inl C2_1028)), (o, .inl (cL, 1, .inr (.inl fo)))] H := hP
    refine lv_istore (lv' := [(6, .int (nI 0)), (5, .int (nI 1)), (0, .ref b), (1, .ref h0), (2, .ref y0), (3, .ref o), (4, .int (nI i))]) hx hb dL_law_1031 hl (by decide) rfl (fun ls hl => ?_)
    refine lv_aload_n hx hb dL_law_1033 rfl (lv_at hl 4 rfl) ?_
    refine z_roV (As := []) (rest := []) ⟨hx, hb, hml, hown, hts⟩ (c_X5_thrown l D cI y0 y1 y2 y3 y4 y5 1 k n q sg rp lo ea go ak9 gn9 gf9) (cwV 0 hts gL_law_X5_thrown rfl rfl rfl hd_X5_thrown ⟨Nat.le_of_ble_eq_true rfl, Nat.le_of_ble_eq_true rfl⟩) ⟨hK, hE⟩ (hP.sub (ws' := [(y0, .inr (5, [.int (nI 1), .int (nI k), .ref y1, .ref y2, .int (nI n), .ref y3, .int (nI q), .int (nI sg), .int rp, .int lo, .int ea, .ref y4, .ref y5, .int (nI go), .int (nI ak9), .int (nI gn9), .int (nI gf9)]))]) [17] rfl) (va_recv hK hP (ci := 5) (q0 := 17) rfl rfl) rfl hl.1 rfl (Nat.le_of_ble_eq_true rfl) dL_law_1034 hcc hs6 ?_
    refine lv_iload hx hb dL_law_1037 (lv_at hl 1 rfl) ?_
    refine z_icmp_eq (tgt := 1044) hx hb dL_law_1039 (by decide) (by omega) (by omega) (fun c_1039 => ?_) (fun c_1039 => ?_)
    · refine lv_iload hx hb dL_law_1044 (lv_at hl 1 rfl) ?_
      refine z_if_ne (tgt := 1061) hx hb dL_law_1046 (by decide) (by omega) (fun c_1046 => ?_) (fun c_1046 => ?_)
      · refine lv_goto (tgt := 1119) hx hb dL_law_1061 (by decide) ?_
        refine W.widen (k := cells + 1) (n := slots + 18) (by omega) (by omega) ?_
        exact kk H locs ls ⟨q, sg, rp, lo, ea, T, Lf, k, t, n, f, lf, C, ps, cnt, fs, lfs, Cs, pss, cnts, se, gf, ak, gn, 1, K2_1028, Lm2_1028, f2_1028, C2_1028, go, ak9, gn9, gf9, fo, hP, (by omega), (by omega), ht, hq, (by omega), hPC, cr_low hCR hKL_1028, kd_low hKD hKL_1028⟩ hS (lv_sub hl [2, 3, 4, 5, 6] rfl)
      · exact absurd c_1046 (by decide)
    · exact absurd c_1039 (by decide)
  · obtain ⟨j_1016, r_1016, fs2_1016, lfs2_1016, Cs2_1016, pss2_1016, cnts2_1016⟩ := u9
    obtain ⟨rfl, hr9, hj_1016, hbs_1016⟩ := hp
    try dsimp only at hr9
    have hr8 := (Value.int.inj (Option.some.inj hr9)).symm
    subst hr8
    try dsimp only at hj_1016 hbs_1016
    have hP : va_P D vwCl [(h0, .inr (4, [.ref b0, .ref m0, .ref p0, .ref s0, .ref q0, .int (nI q), .int (nI sg), .int rp, .int lo, .int ea])), (b0, .inr (0, [.ref b1, .ref b2, .int (nI k)])), (b1, .inl (cI, 32, .inl T)), (b2, .inl (cI, 8, .inl (nA Lf))), (m0, .inr (1, [.ref m1, .int (nI n)])), (m1, .inl (cI, 24, .inl (nA t))), (p0, .inr (2, [.ref p1, .ref p2, .ref p3, .ref p4, .int (nI cnt)])), (p1, .inl (cI, 25, .inl (nA f))), (p2, .inl (cI, 24, .inl (nA lf))), (p3, .inl (cI, 24, .inl C)), (p4, .inl (cI, 24, .inl (nA ps))), (s0, .inr (2, [.ref s1, .ref s2, .ref s3, .ref s4, .int (nI cnts2_1016)])), (s1, .inl (cI, 25, .inl (nA fs2_1016))), (s2, .inl (cI, 24, .inl (nA lfs2_1016))), (s3, .inl (cI, 24, .inl Cs2_1016)), (s4, .inl (cI, 24, .inl (nA pss2_1016))), (q0, .inr (3, [.int (nI se), .int (nI gf), .int (nI ak), .int (nI gn)])), (y0, .inr (5, [.int (nI th), .int (nI k), .ref y1, .ref y2, .int (nI n), .ref y3, .int (nI q), .int (nI sg), .int rp, .int lo, .int ea, .ref y4, .ref y5, .int (nI go), .int (nI ak9), .int (nI gn9), .int (nI gf9)])), (y1, .inl (cI, 9, .inl K)), (y2, .inl (cI, 9, .inl (nA Lm))), (y3, .inl (cI, 24, .inl (nA t))), (y4, .inl (cI, 25, .inl (nA f9))), (y5, .inl (cI, 24, .inl C9)), (o, .inl (cL, 1, .inr (.inl (vp_updL fo 0 (r_1016.toInt64)))))] H := hP
    refine W.eq (g2 := F0 mi 1019 ls [.int (nI 0)]) rfl ?_
    refine lv_istore (lv' := [(5, .int (nI 0)), (0, .ref b), (1, .ref h0), (2, .ref y0), (3, .ref o), (4, .int (nI i))]) hx hb dL_law_1019 hl (by decide) rfl (fun ls hl => ?_)
    refine lv_aload_n hx hb dL_law_1021 rfl (lv_at hl 3 rfl) ?_
    refine lv_aload_n hx hb dL_law_1022 rfl (lv_at hl 1 rfl) ?_
    refine lv_iload hx hb dL_law_1023 (lv_at hl 5 rfl) ?_
    refine lv_iconst (v := nI 1) hx hb dL_law_1025 ci_1 ?_
    refine z_iadd hx hb dL_law_1026 ?_
    refine z_sld hx hb hX hbl hbA hS (by omega) (by omega) dL_law_1027 ?_
    refine z_muV (As := [.int (xs (i + 1))]) (rest := []) ⟨hx, hb, hml, hown, hts⟩ (c_X5_bestNewCode l D cI y0 y1 y2 y3 y4 y5 th k n q sg rp lo ea go ak9 gn9 gf9 K Lm t f9 C9 (xs (i + 1)) (by first | assumption | omega) (by first | assumption | omega) (by first | assumption | omega) (by first | assumption | omega) (by first | assumption | omega)) (cwV 1 hts gL_law_X5_bestNewCode rfl rfl rfl hd_X5_bestNewCode ⟨Nat.le_of_ble_eq_true rfl, Nat.le_of_ble_eq_true rfl⟩) ⟨hK, hE⟩ hP hD rfl hS [17, 18, 19, 20, 21, 22] (by decide) rfl (fun _ => rfl) (va_recv hK hP (ci := 5) (q0 := 17) rfl rfl) rfl hl.1 rfl (Nat.le_of_ble_eq_true rfl) dL_law_1028 hcc hs6 (fun v9 u9 H locs hp hP hS => ?_)
    obtain ⟨th2_1028, r_1028, K2_1028, Lm2_1028, f2_1028, C2_1028⟩ := u9
    obtain ⟨rfl, hd_1028, hKL_1028⟩ := hp
    try dsimp only at hd_1028 hKL_1028
    have hP : va_P D vwCl [(h0, .inr (4, [.ref b0, .ref m0, .ref p0, .ref s0, .ref q0, .int (nI q), .int (nI sg), .int rp, .int lo, .int ea])), (b0, .inr (0, [.ref b1, .ref b2, .int (nI k)])), (b1, .inl (cI, 32, .inl T)), (b2, .inl (cI, 8, .inl (nA Lf))), (m0, .inr (1, [.ref m1, .int (nI n)])), (m1, .inl (cI, 24, .inl (nA t))), (p0, .inr (2, [.ref p1, .ref p2, .ref p3, .ref p4, .int (nI cnt)])), (p1, .inl (cI, 25, .inl (nA f))), (p2, .inl (cI, 24, .inl (nA lf))), (p3, .inl (cI, 24, .inl C)), (p4, .inl (cI, 24, .inl (nA ps))), (s0, .inr (2, [.ref s1, .ref s2, .ref s3, .ref s4, .int (nI cnts2_1016)])), (s1, .inl (cI, 25, .inl (nA fs2_1016))), (s2, .inl (cI, 24, .inl (nA lfs2_1016))), (s3, .inl (cI, 24, .inl Cs2_1016)), (s4, .inl (cI, 24, .inl (nA pss2_1016))), (q0, .inr (3, [.int (nI se), .int (nI gf), .int (nI ak), .int (nI gn)])), (y0, .inr (5, [.int (nI th2_1028), .int (nI k), .ref y1, .ref y2, .int (nI n), .ref y3, .int (nI q), .int (nI sg), .int rp, .int lo, .int ea, .ref y4, .ref y5, .int (nI go), .int (nI ak9), .int (nI gn9), .int (nI gf9)])), (y1, .inl (cI, 9, .inl K2_1028)), (y2, .inl (cI, 9, .inl (nA Lm2_1028))), (y3, .inl (cI, 24, .inl (nA t))), (y4, .inl (cI, 25, .inl (nA f2_1028))), (y5, .inl (cI, 24, .inl C2_1028)), (o, .inl (cL, 1, .inr (.inl (vp_updL fo 0 (r_1016.toInt64)))))] H := hP
    refine W.eq (g2 := F0 mi 1031 ls [.int r_1028]) rfl ?_
    obtain ⟨j9, a1, a2, z1, hbm⟩ := hd_1028.resolve_right (fun z => z.1 ⟨_, hj_1016⟩)
    replace z1 := z1.symm
    subst z1
    have e9 : j_1016 = j9 := by have e8 : nI j_1016 = nI j9 := hj_1016.2.symm.trans a2; have := hj_1016.1; exact (nI_eq (by omega) (by omega)).mp e8
    subst e9
    have hP : va_P D vwCl [(h0, .inr (4, [.ref b0, .ref m0, .ref p0, .ref s0, .ref q0, .int (nI q), .int (nI sg), .int rp, .int lo, .int ea])), (b0, .inr (0, [.ref b1, .ref b2, .int (nI k)])), (b1, .inl (cI, 32, .inl T)), (b2, .inl (cI, 8, .inl (nA Lf))), (m0, .inr (1, [.ref m1, .int (nI n)])), (m1, .inl (cI, 24, .inl (nA t))), (p0, .inr (2, [.ref p1, .ref p2, .ref p3, .ref p4, .int (nI cnt)])), (p1, .inl (cI, 25, .inl (nA f))), (p2, .inl (cI, 24, .inl (nA lf))), (p3, .inl (cI, 24, .inl C)), (p4, .inl (cI, 24, .inl (nA ps))), (s0, .inr (2, [.ref s1, .ref s2, .ref s3, .ref s4, .int (nI cnts2_1016)])), (s1, .inl (cI, 25, .inl (nA fs2_1016))), (s2, .inl (cI, 24, .inl (nA lfs2_1016))), (s3, .inl (cI, 24, .inl Cs2_1016)), (s4, .inl (cI, 24, .inl (nA pss2_1016))), (q0, .inr (3, [.int (nI se), .int (nI gf), .int (nI ak), .int (nI gn)])), (y0, .inr (5, [.int (nI 0), .int (nI k), .ref y1, .ref y2, .int (nI n), .ref y3, .int (nI q), .int (nI sg), .int rp, .int lo, .int ea, .ref y4, .ref y5, .int (nI go), .int (nI ak9), .int (nI gn9), .int (nI gf9)])), (y1, .inl (cI, 9, .inl K2_1028)), (y2, .inl (cI, 9, .inl (nA Lm2_1028))), (y3, .inl (cI, 24, .inl (nA t))), (y4, .inl (cI, 25, .inl (nA f2_1028))), (y5, .inl (cI, 24, .inl C2_1028)), (o, .inl (cL, 1, .inr (.inl (vp_updL fo 0 (r_1016.toInt64)))))] H := hP
    refine lv_istore (lv' := [(6, .int r_1028), (5, .int (nI 0)), (0, .ref b), (1, .ref h0), (2, .ref y0), (3, .ref o), (4, .int (nI i))]) hx hb dL_law_1031 hl (by decide) rfl (fun ls hl => ?_)
    refine lv_aload_n hx hb dL_law_1033 rfl (lv_at hl 4 rfl) ?_
    refine z_roV (As := []) (rest := []) ⟨hx, hb, hml, hown, hts⟩ (c_X5_thrown l D cI y0 y1 y2 y3 y4 y5 0 k n q sg rp lo ea go ak9 gn9 gf9) (cwV 0 hts gL_law_X5_thrown rfl rfl rfl hd_X5_thrown ⟨Nat.le_of_ble_eq_true rfl, Nat.le_of_ble_eq_true rfl⟩) ⟨hK, hE⟩ (hP.sub (ws' := [(y0, .inr (5, [.int (nI 0), .int (nI k), .ref y1, .ref y2, .int (nI n), .ref y3, .int (nI q), .int (nI sg), .int rp, .int lo, .int ea, .ref y4, .ref y5, .int (nI go), .int (nI ak9), .int (nI gn9), .int (nI gf9)]))]) [17] rfl) (va_recv hK hP (ci := 5) (q0 := 17) rfl rfl) rfl hl.1 rfl (Nat.le_of_ble_eq_true rfl) dL_law_1034 hcc hs6 ?_
    refine lv_iload hx hb dL_law_1037 (lv_at hl 1 rfl) ?_
    refine z_icmp_eq (tgt := 1044) hx hb dL_law_1039 (by decide) (by omega) (by omega) (fun c_1039 => ?_) (fun c_1039 => ?_)
    · refine lv_iload hx hb dL_law_1044 (lv_at hl 1 rfl) ?_
      refine z_if_ne (tgt := 1061) hx hb dL_law_1046 (by decide) (by omega) (fun c_1046 => ?_) (fun c_1046 => ?_)
      · exact absurd c_1046 (by decide)
      · refine lv_aload_n hx hb dL_law_1049 rfl (lv_at hl 5 rfl) ?_
        refine lv_iconst (v := nI 0) hx hb dL_law_1050 ci_0 ?_
        refine z_lald0 hx hb hKL hP 23 rfl dL_law_1051 ?_
        refine lv_iload hx hb dL_law_1052 (lv_at hl 0 rfl) ?_
        refine lv_i2l hx hb dL_law_1054 rfl ?_
        refine z_lcmpS hx hb (vp0.trans (congrArg Int32.toInt64 (bm_uq (bs_bm ht hCR hKD hk hj_1016.1 hbs_1016) hbm))) dL_law_1055 ?_
        refine z_if_eq (tgt := 1061) hx hb dL_law_1056 (by decide) (by omega) (fun c_1056 => ?_) (fun c_1056 => ?_)
        · refine lv_goto (tgt := 1119) hx hb dL_law_1061 (by decide) ?_
          refine W.widen (k := cells + 1) (n := slots + 18) (by omega) (by omega) ?_
          exact kk H locs ls ⟨q, sg, rp, lo, ea, T, Lf, k, t, n, f, lf, C, ps, cnt, fs2_1016, lfs2_1016, Cs2_1016, pss2_1016, cnts2_1016, se, gf, ak, gn, 0, K2_1028, Lm2_1028, f2_1028, C2_1028, go, ak9, gn9, gf9, (vp_updL fo 0 (r_1016.toInt64)), hP, (by omega), (by omega), ht, hq, (by omega), hPC, cr_low hCR hKL_1028, kd_low hKD hKL_1028⟩ hS (lv_sub hl [2, 3, 4, 5, 6] rfl)
        · exact absurd c_1056 (by decide)
    · exact absurd c_1039 (by decide)
