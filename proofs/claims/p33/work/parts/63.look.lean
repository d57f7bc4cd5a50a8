set_option maxHeartbeats 4000000 in
set_option maxRecDepth 100000 in
theorem law_s2 {pg : Program} {l : Launch} {ev : Env} {sv : State} {mi : MethodId} {ag : Array Value} {bl : List Frame} {mt : Method} {cd : Code} {Q : State → Prop} {D : va_G} {cI : ClassId} {A : Nat → Prop} {b : Nat} {h0 b0 m0 p0 s0 q0 b1 b2 m1 p1 p2 p3 p4 y0 : Nat} {k n q sg rp lo cnt se gf ak gn : Nat} {Lf t f lf ps R : Nat → Nat} {T C : Nat → Int32} {ea : Int32} {yk ym bd : Nat} {H : Heap} {locs : List Loc} {cells slots : Nat} {ls : Array Slot} {tm : Nat} {x : Int32} (hCx : LC pg l sv mi ag cd D cI A b) (hSI : SI bd k n q sg rp lo cnt T Lf t f lf C ps) (hbd : bd ≤ 50000) (hcc : cells ≤ 700000) (hss : slots ≤ 6000000) (hP : va_P D vwCl ((h0, .inr (4, [.ref b0, .ref m0, .ref p0, .ref s0, .ref q0, .int (nI q), .int (nI sg), .int (nI rp), .int (nI lo), .int ea])) :: (b0, .inr (0, [.ref b1, .ref b2, .int (nI k)])) :: (b1, .inl (cI, 32, .inl T)) :: (b2, .inl (cI, 8, .inl (nA Lf))) :: (m0, .inr (1, [.ref m1, .int (nI n)])) :: (m1, .inl (cI, 24, .inl (nA t))) :: (p0, .inr (2, [.ref p1, .ref p2, .ref p3, .ref p4, .int (nI cnt)])) :: (p1, .inl (cI, 25, .inl (nA f))) :: (p2, .inl (cI, 24, .inl (nA lf))) :: (p3, .inl (cI, 24, .inl C)) :: (p4, .inl (cI, 24, .inl (nA ps))) :: (q0, .inr (3, [.int (nI se), .int (nI gf), .int (nI ak), .int (nI gn)])) :: (y0, .inr (5, [.ref yk, .ref ym, .int (nI q), .int (nI sg), .int (nI rp), .int (nI lo), .int ea])) :: (ym, .inl (cI, n, .inl (nA t))) :: (yk, .inl (zQ D, k, .inr (.inr (.inr (.inr (zrf R)))))) :: rwW cI R Lf T k) H) (hD : zDD A (h0 :: b0 :: b1 :: b2 :: m0 :: m1 :: p0 :: p1 :: p2 :: p3 :: p4 :: q0 :: y0 :: ym :: yk :: (rwW cI R Lf T k).map Prod.fst)) (hS : va_S A sv.heap H locs) (hl : lv_has ls 19 [(4, .int x), (3, .int (nI tm)), (2, .ref y0), (1, .ref h0), (0, .ref b)]) (K : ∀ (H : Heap) (locs : List Loc) (ls : Array Slot), va_P D vwCl ((h0, .inr (4, [.ref b0, .ref m0, .ref p0, .ref s0, .ref q0, .int (nI q), .int (nI sg), .int (nI rp), .int (nI lo), .int ea])) :: (b0, .inr (0, [.ref b1, .ref b2, .int (nI k)])) :: (b1, .inl (cI, 32, .inl T)) :: (b2, .inl (cI, 8, .inl (nA Lf))) :: (m0, .inr (1, [.ref m1, .int (nI n)])) :: (m1, .inl (cI, 24, .inl (nA t))) :: (p0, .inr (2, [.ref p1, .ref p2, .ref p3, .ref p4, .int (nI cnt)])) :: (p1, .inl (cI, 25, .inl (nA f))) :: (p2, .inl (cI, 24, .inl (nA lf))) :: (p3, .inl (cI, 24, .inl C)) :: (p4, .inl (cI, 24, .inl (nA ps))) :: (q0, .inr (3, [.int (nI se), .int (nI gf), .int (nI ak), .int (nI gn)])) :: (y0, .inr (5, [.ref yk, .ref ym, .int (nI q), .int (nI sg), .int (nI rp), .int (nI lo), .int ea])) :: (ym, .inl (cI, n, .inl (nA t))) :: (yk, .inl (zQ D, k, .inr (.inr (.inr (.inr (zrf R)))))) :: rwW cI R Lf T k) H → zDD A (h0 :: b0 :: b1 :: b2 :: m0 :: m1 :: p0 :: p1 :: p2 :: p3 :: p4 :: q0 :: y0 :: ym :: yk :: (rwW cI R Lf T k).map Prod.fst) → va_S A sv.heap H locs → lv_has ls 19 [(7, .int (nI cnt)), (6, .int (nI k)), (5, .int (nI n)), (4, .int x), (3, .int (nI tm)), (2, .ref y0), (1, .ref h0), (0, .ref b)] → W pg l ev rm_L_law sv mi ag bl mt cd H locs (cells + 1) (slots + 8) Q (F0 mi 505 ls [])) : W pg l ev rm_L_law sv mi ag bl mt cd H locs cells slots Q (F0 mi 90 ls []) := by
  obtain ⟨hx, hb, hml, hts, hown, hK, hE, hscr, hbl, hbA, hA⟩ := id hCx
  obtain ⟨hn, hk, hL, ht, hBK, hpart, hq1, hsg0, hlo, hrp⟩ := id hSI
  have hcnt : cnt ≤ 24 := Nat.le_trans hpart.2.2.2 hn
  have hst : ∀ g, g < cnt → ps g < n := fun g hg => by have h9 := hpart.2.1 g hg; rw [h9.1]; exact h9.2
  have hq : q ≤ 9 := hq1.2
  have hsg : sg ≤ 60000 := by omega
  have hcnn := hpart.2.2.2
  have f_21 := hts (.fieldLink RL 21 "TelegraphDeskLaw$Sim" "codes" "[[I") fl_21
  refine lv_aload_n hx hb dL_law_90 rfl (lv_at hl 3 rfl) ?_
  refine z_roV (w0 := [(h0, .inr (4, [.ref b0, .ref m0, .ref p0, .ref s0, .ref q0, .int (nI q), .int (nI sg), .int (nI rp), .int (nI lo), .int ea])), (m0, .inr (1, [.ref m1, .int (nI n)]))]) (As := []) (rest := []) ⟨hx, hb, hml, hown, hts⟩ (c_X4_words l D cI h0 b0 m0 p0 s0 q0 q sg (nI rp) (nI lo) ea m1 n) (cwV 0 hts gL_law_X4_words rfl rfl rfl hd_X4_words ⟨Nat.le_of_ble_eq_true rfl, Nat.le_of_ble_eq_true rfl⟩) ⟨hK, hE⟩ (fr_cons (hP 0 _ rfl) (fr_cons (hP 4 _ rfl) (va_P_nil _ _ _))) (va_recv hK hP (ci := 4) (q0 := 0) rfl rfl) rfl hl.1 rfl (Nat.le_of_ble_eq_true rfl) dL_law_91 (by show _ ≤ 769499; omega) (by show _ ≤ 6793128; omega) ?_
  refine lv_istore (lv' := [(5, .int (nI n)), (4, .int x), (3, .int (nI tm)), (2, .ref y0), (1, .ref h0), (0, .ref b)]) hx hb dL_law_94 hl (by decide) rfl (fun ls hl => ?_)
  refine lv_aload_n hx hb dL_law_96 rfl (lv_at hl 4 rfl) ?_
  refine z_roV (w0 := [(h0, .inr (4, [.ref b0, .ref m0, .ref p0, .ref s0, .ref q0, .int (nI q), .int (nI sg), .int (nI rp), .int (nI lo), .int ea])), (b0, .inr (0, [.ref b1, .ref b2, .int (nI k)]))]) (As := []) (rest := []) ⟨hx, hb, hml, hown, hts⟩ (c_X4_codes l D cI h0 b0 m0 p0 s0 q0 q sg (nI rp) (nI lo) ea b1 b2 k) (cwV 0 hts gL_law_X4_codes rfl rfl rfl hd_X4_codes ⟨Nat.le_of_ble_eq_true rfl, Nat.le_of_ble_eq_true rfl⟩) ⟨hK, hE⟩ (fr_cons (hP 0 _ rfl) (fr_cons (hP 1 _ rfl) (va_P_nil _ _ _))) (va_recv hK hP (ci := 4) (q0 := 0) rfl rfl) rfl hl.1 rfl (Nat.le_of_ble_eq_true rfl) dL_law_97 (by show _ ≤ 769499; omega) (by show _ ≤ 6793128; omega) ?_
  refine lv_istore (lv' := [(6, .int (nI k)), (5, .int (nI n)), (4, .int x), (3, .int (nI tm)), (2, .ref y0), (1, .ref h0), (0, .ref b)]) hx hb dL_law_100 hl (by decide) rfl (fun ls hl => ?_)
  refine lv_aload_n hx hb dL_law_102 rfl (lv_at hl 5 rfl) ?_
  refine z_roV (w0 := [(h0, .inr (4, [.ref b0, .ref m0, .ref p0, .ref s0, .ref q0, .int (nI q), .int (nI sg), .int (nI rp), .int (nI lo), .int ea])), (p0, .inr (2, [.ref p1, .ref p2, .ref p3, .ref p4, .int (nI cnt)]))]) (As := []) (rest := []) ⟨hx, hb, hml, hown, hts⟩ (c_X4_groups l D cI h0 b0 m0 p0 s0 q0 q sg (nI rp) (nI lo) ea p1 p2 p3 p4 cnt) (cwV 0 hts gL_law_X4_groups rfl rfl rfl hd_X4_groups ⟨Nat.le_of_ble_eq_true rfl, Nat.le_of_ble_eq_true rfl⟩) ⟨hK, hE⟩ (fr_cons (hP 0 _ rfl) (fr_cons (hP 6 _ rfl) (va_P_nil _ _ _))) (va_recv hK hP (ci := 4) (q0 := 0) rfl rfl) rfl hl.1 rfl (Nat.le_of_ble_eq_true rfl) dL_law_103 (by show _ ≤ 769499; omega) (by show _ ≤ 6793128; omega) ?_
  refine lv_istore (lv' := [(7, .int (nI cnt)), (6, .int (nI k)), (5, .int (nI n)), (4, .int x), (3, .int (nI tm)), (2, .ref y0), (1, .ref h0), (0, .ref b)]) hx hb dL_law_106 hl (by decide) rfl (fun ls hl => ?_)
  refine lv_iconst (v := nI 0) hx hb dL_law_108 ci_0 ?_
  refine lv_istore (lv' := [(8, .int (nI 0)), (7, .int (nI cnt)), (6, .int (nI k)), (5, .int (nI n)), (4, .int x), (3, .int (nI tm)), (2, .ref y0), (1, .ref h0), (0, .ref b)]) hx hb dL_law_109 hl (by decide) rfl (fun ls hl => ?_)
  refine lv_iconst (v := nI 0) hx hb dL_law_111 ci_0 ?_
  refine lv_istore (lv' := [(9, .int (nI 0)), (8, .int (nI 0)), (7, .int (nI cnt)), (6, .int (nI k)), (5, .int (nI n)), (4, .int x), (3, .int (nI tm)), (2, .ref y0), (1, .ref h0), (0, .ref b)]) hx hb dL_law_112 hl (by decide) rfl (fun ls hl => ?_)
  refine lv_iconst (v := nI 0) hx hb dL_law_114 ci_0 ?_
  refine lv_istore (lv' := [(10, .int (nI 0)), (9, .int (nI 0)), (8, .int (nI 0)), (7, .int (nI cnt)), (6, .int (nI k)), (5, .int (nI n)), (4, .int x), (3, .int (nI tm)), (2, .ref y0), (1, .ref h0), (0, .ref b)]) hx hb dL_law_115 hl (by decide) rfl (fun ls hl => ?_)
  refine lv_iload hx hb dL_law_117 (lv_at hl 4 rfl) ?_
  refine zf_newaN (B := 8) hx hb (hts (.arrayClass .int) (by decide +kernel)) hK hP (hD.to rfl) hS hA (by omega) (by omega) (by show _ ≤ 769499; omega) (by show _ ≤ 6793128; omega) dL_law_119 (fun us H hP hD hS => ?_)
  have hP : va_P D vwCl ((us, .inl (cI, k, .inl (nA (fun _ => 0)))) :: (h0, .inr (4, [.ref b0, .ref m0, .ref p0, .ref s0, .ref q0, .int (nI q), .int (nI sg), .int (nI rp), .int (nI lo), .int ea])) :: (b0, .inr (0, [.ref b1, .ref b2, .int (nI k)])) :: (b1, .inl (cI, 32, .inl T)) :: (b2, .inl (cI, 8, .inl (nA Lf))) :: (m0, .inr (1, [.ref m1, .int (nI n)])) :: (m1, .inl (cI, 24, .inl (nA t))) :: (p0, .inr (2, [.ref p1, .ref p2, .ref p3, .ref p4, .int (nI cnt)])) :: (p1, .inl (cI, 25, .inl (nA f))) :: (p2, .inl (cI, 24, .inl (nA lf))) :: (p3, .inl (cI, 24, .inl C)) :: (p4, .inl (cI, 24, .inl (nA ps))) :: (q0, .inr (3, [.int (nI se), .int (nI gf), .int (nI ak), .int (nI gn)])) :: (y0, .inr (5, [.ref yk, .ref ym, .int (nI q), .int (nI sg), .int (nI rp), .int (nI lo), .int ea])) :: (ym, .inl (cI, n, .inl (nA t))) :: (yk, .inl (zQ D, k, .inr (.inr (.inr (.inr (zrf R)))))) :: rwW cI R Lf T k) H := hP
  have hD : zDD A (us :: h0 :: b0 :: b1 :: b2 :: m0 :: m1 :: p0 :: p1 :: p2 :: p3 :: p4 :: q0 :: y0 :: ym :: yk :: (rwW cI R Lf T k).map Prod.fst) := zDD.of hD
  refine lv_astore (lv' := [(11, .ref us), (10, .int (nI 0)), (9, .int (nI 0)), (8, .int (nI 0)), (7, .int (nI cnt)), (6, .int (nI k)), (5, .int (nI n)), (4, .int x), (3, .int (nI tm)), (2, .ref y0), (1, .ref h0), (0, .ref b)]) hx hb dL_law_121 hl (by decide) rfl (fun ls hl => ?_)
  refine lv_iconst (v := nI 0) hx hb dL_law_123 ci_0 ?_
  refine lv_istore (lv' := [(12, .int (nI 0)), (11, .ref us), (10, .int (nI 0)), (9, .int (nI 0)), (8, .int (nI 0)), (7, .int (nI cnt)), (6, .int (nI k)), (5, .int (nI n)), (4, .int x), (3, .int (nI tm)), (2, .ref y0), (1, .ref h0), (0, .ref b)]) hx hb dL_law_124 hl (by decide) rfl (fun ls hl => ?_)
  have lp_126 : ∀ (Nf : Nat) (g : Nat) (us9 : Nat → Nat) (hg : g ≤ cnt) (hu : ∀ c, c < k → us9 c = cN (fun j => C (ps j) = nI c) g) (hN : cnt - g < Nf) (H : Heap) (locs : List Loc) (ls : Array Slot), va_P D vwCl ((us, .inl (cI, k, .inl (nA us9))) :: (h0, .inr (4, [.ref b0, .ref m0, .ref p0, .ref s0, .ref q0, .int (nI q), .int (nI sg), .int (nI rp), .int (nI lo), .int ea])) :: (b0, .inr (0, [.ref b1, .ref b2, .int (nI k)])) :: (b1, .inl (cI, 32, .inl T)) :: (b2, .inl (cI, 8, .inl (nA Lf))) :: (m0, .inr (1, [.ref m1, .int (nI n)])) :: (m1, .inl (cI, 24, .inl (nA t))) :: (p0, .inr (2, [.ref p1, .ref p2, .ref p3, .ref p4, .int (nI cnt)])) :: (p1, .inl (cI, 25, .inl (nA f))) :: (p2, .inl (cI, 24, .inl (nA lf))) :: (p3, .inl (cI, 24, .inl C)) :: (p4, .inl (cI, 24, .inl (nA ps))) :: (q0, .inr (3, [.int (nI se), .int (nI gf), .int (nI ak), .int (nI gn)])) :: (y0, .inr (5, [.ref yk, .ref ym, .int (nI q), .int (nI sg), .int (nI rp), .int (nI lo), .int ea])) :: (ym, .inl (cI, n, .inl (nA t))) :: (yk, .inl (zQ D, k, .inr (.inr (.inr (.inr (zrf R)))))) :: rwW cI R Lf T k) H → va_S A sv.heap H locs → lv_has ls 19 [(12, .int (nI g)), (11, .ref us), (10, .int (nI 0)), (9, .int (nI (sN (ctW C ps t) g))), (8, .int (nI (posN lf g))), (7, .int (nI cnt)), (6, .int (nI k)), (5, .int (nI n)), (4, .int x), (3, .int (nI tm)), (2, .ref y0), (1, .ref h0), (0, .ref b)] → W pg l ev rm_L_law sv mi ag bl mt cd H locs (cells + 1) (slots + 8) Q (F0 mi 126 ls []) := by
    intro Nf
    induction Nf with
    | zero =>
      intro g us9 hg hu hN
      exact absurd hN (Nat.not_lt_zero _)
    | succ Nf ih_126 =>
      intro g us9 hg hu hN H locs ls hP hS hl
      refine lv_iload hx hb dL_law_126 (lv_at hl 0 rfl) ?_
      refine lv_iload hx hb dL_law_128 (lv_at hl 5 rfl) ?_
      refine z_icmp_ge (tgt := 289) hx hb dL_law_130 (by decide) (by omega) (by omega) (fun c_130 => ?_) (fun c_130 => ?_)
      · have hge : g = cnt := by omega
        have huf : ∀ c, c < k → us9 c = cN (fun j => C (ps j) = nI c) cnt := fun c hc => by rw [← hge]; exact hu c hc
        have hpe : posN lf g = n := by rw [hge]; exact hpart.2.2.1
        have hXg : sN (ctW C ps t) g = sN (ctW C ps t) cnt := by rw [hge]
        refine lv_iconst (v := nI 0) hx hb dL_law_289 ci_0 ?_
        refine lv_istore (lv' := [(12, .int (nI 0)), (11, .ref us), (10, .int (nI 0)), (9, .int (nI (sN (ctW C ps t) g))), (8, .int (nI (posN lf g))), (7, .int (nI cnt)), (6, .int (nI k)), (5, .int (nI n)), (4, .int x), (3, .int (nI tm)), (2, .ref y0), (1, .ref h0), (0, .ref b)]) hx hb dL_law_290 hl (by decide) rfl (fun ls hl => ?_)
        have lp_292 : ∀ (Nf : Nat) (a : Nat) (ha : a ≤ n) (hN : n - a < Nf) (H : Heap) (locs : List Loc) (ls : Array Slot), va_P D vwCl ((us, .inl (cI, k, .inl (nA us9))) :: (h0, .inr (4, [.ref b0, .ref m0, .ref p0, .ref s0, .ref q0, .int (nI q), .int (nI sg), .int (nI rp), .int (nI lo), .int ea])) :: (b0, .inr (0, [.ref b1, .ref b2, .int (nI k)])) :: (b1, .inl (cI, 32, .inl T)) :: (b2, .inl (cI, 8, .inl (nA Lf))) :: (m0, .inr (1, [.ref m1, .int (nI n)])) :: (m1, .inl (cI, 24, .inl (nA t))) :: (p0, .inr (2, [.ref p1, .ref p2, .ref p3, .ref p4, .int (nI cnt)])) :: (p1, .inl (cI, 25, .inl (nA f))) :: (p2, .inl (cI, 24, .inl (nA lf))) :: (p3, .inl (cI, 24, .inl C)) :: (p4, .inl (cI, 24, .inl (nA ps))) :: (q0, .inr (3, [.int (nI se), .int (nI gf), .int (nI ak), .int (nI gn)])) :: (y0, .inr (5, [.ref yk, .ref ym, .int (nI q), .int (nI sg), .int (nI rp), .int (nI lo), .int ea])) :: (ym, .inl (cI, n, .inl (nA t))) :: (yk, .inl (zQ D, k, .inr (.inr (.inr (.inr (zrf R)))))) :: rwW cI R Lf T k) H → va_S A sv.heap H locs → lv_has ls 19 [(12, .int (nI a)), (11, .ref us), (10, .int (nI (sN (fun j => wc (t j)) a))), (9, .int (nI (sN (ctW C ps t) g))), (8, .int (nI (posN lf g))), (7, .int (nI cnt)), (6, .int (nI k)), (5, .int (nI n)), (4, .int x), (3, .int (nI tm)), (2, .ref y0), (1, .ref h0), (0, .ref b)] → W pg l ev rm_L_law sv mi ag bl mt cd H locs (cells + 1) (slots + 8) Q (F0 mi 292 ls []) := by
          intro Nf
          induction Nf with
          | zero =>
            intro a ha hN
            exact absurd hN (Nat.not_lt_zero _)
          | succ Nf ih_292 =>
            intro a ha hN H locs ls hP hS hl
            refine lv_iload hx hb dL_law_292 (lv_at hl 0 rfl) ?_
            refine lv_iload hx hb dL_law_294 (lv_at hl 7 rfl) ?_
            refine z_icmp_ge (tgt := 326) hx hb dL_law_296 (by decide) (by omega) (by omega) (fun c_296 => ?_) (fun c_296 => ?_)
            · have hae : a = n := by omega
              have hPa : sN (fun j => wc (t j)) a = sN (fun j => wc (t j)) n := by rw [hae]
              refine lv_iconst (v := nI 0) hx hb dL_law_326 ci_0 ?_
              refine lv_istore (lv' := [(12, .int (nI 0)), (11, .ref us), (10, .int (nI (sN (fun j => wc (t j)) a))), (9, .int (nI (sN (ctW C ps t) g))), (8, .int (nI (posN lf g))), (7, .int (nI cnt)), (6, .int (nI k)), (5, .int (nI n)), (4, .int x), (3, .int (nI tm)), (2, .ref y0), (1, .ref h0), (0, .ref b)]) hx hb dL_law_327 hl (by decide) rfl (fun ls hl => ?_)
              have lp_329 : ∀ (Nf : Nat) (c : Nat) (hc : c ≤ k) (hN : k - c < Nf) (H : Heap) (locs : List Loc) (ls : Array Slot), va_P D vwCl ((us, .inl (cI, k, .inl (nA us9))) :: (h0, .inr (4, [.ref b0, .ref m0, .ref p0, .ref s0, .ref q0, .int (nI q), .int (nI sg), .int (nI rp), .int (nI lo), .int ea])) :: (b0, .inr (0, [.ref b1, .ref b2, .int (nI k)])) :: (b1, .inl (cI, 32, .inl T)) :: (b2, .inl (cI, 8, .inl (nA Lf))) :: (m0, .inr (1, [.ref m1, .int (nI n)])) :: (m1, .inl (cI, 24, .inl (nA t))) :: (p0, .inr (2, [.ref p1, .ref p2, .ref p3, .ref p4, .int (nI cnt)])) :: (p1, .inl (cI, 25, .inl (nA f))) :: (p2, .inl (cI, 24, .inl (nA lf))) :: (p3, .inl (cI, 24, .inl C)) :: (p4, .inl (cI, 24, .inl (nA ps))) :: (q0, .inr (3, [.int (nI se), .int (nI gf), .int (nI ak), .int (nI gn)])) :: (y0, .inr (5, [.ref yk, .ref ym, .int (nI q), .int (nI sg), .int (nI rp), .int (nI lo), .int ea])) :: (ym, .inl (cI, n, .inl (nA t))) :: (yk, .inl (zQ D, k, .inr (.inr (.inr (.inr (zrf R)))))) :: rwW cI R Lf T k) H → va_S A sv.heap H locs → lv_has ls 19 [(12, .int (nI c)), (11, .ref us), (10, .int (nI (sN (fun j => wc (t j)) a))), (9, .int (nI (sN (ctW C ps t) g))), (8, .int (nI (posN lf g))), (7, .int (nI cnt)), (6, .int (nI k)), (5, .int (nI n)), (4, .int x), (3, .int (nI tm)), (2, .ref y0), (1, .ref h0), (0, .ref b)] → W pg l ev rm_L_law sv mi ag bl mt cd H locs (cells + 1) (slots + 8) Q (F0 mi 329 ls []) := by
                intro Nf
                induction Nf with
                | zero =>
                  intro c hc hN
                  exact absurd hN (Nat.not_lt_zero _)
                | succ Nf ih_329 =>
                  intro c hc hN H locs ls hP hS hl
                  refine lv_iload hx hb dL_law_329 (lv_at hl 0 rfl) ?_
                  refine lv_iload hx hb dL_law_331 (lv_at hl 6 rfl) ?_
                  refine z_icmp_ge (tgt := 378) hx hb dL_law_333 (by decide) (by omega) (by omega) (fun c_333 => ?_) (fun c_333 => ?_)
                  · have hX := sN_le (f := ctW C ps t) (b := 2) cnt (fun j _ => ctW_le C ps t j)
                    have hPl := sN_le (f := fun j => wc (t j)) (b := 2) n (fun j _ => wc_le _)
                    have hXP := ct_all hpart hk hL
                    have hn4 := cnt_4 hpart
                    have hcX : (n = 0 ∧ costN n (sN (ctW C ps t) cnt) = 0) ∨ (0 < n ∧ costN n (sN (ctW C ps t) cnt) = 20 + 3 * (sN (ctW C ps t) cnt - 10)) := cost_or n _
                    have hcP : (n = 0 ∧ costN n (sN (fun j => wc (t j)) n) = 0) ∨ (0 < n ∧ costN n (sN (fun j => wc (t j)) n) = 20 + 3 * (sN (fun j => wc (t j)) n - 10)) := cost_or n _
                    refine lv_iload hx hb dL_law_378 (lv_at hl 4 rfl) ?_
                    refine lv_iload hx hb dL_law_380 (lv_at hl 7 rfl) ?_
                    refine z_icmp_ne (tgt := 503) hx hb dL_law_382 (by decide) (by omega) (by omega) (fun c_382 => ?_) (fun c_382 => ?_)
                    · exact absurd hpe c_382
                    · refine lv_iload hx hb dL_law_385 (lv_at hl 7 rfl) ?_
                      refine z_bipush (n := 24) hx hb rfl (by decide) dL_law_387 ?_
                      refine z_icmp_gt (tgt := 503) hx hb dL_law_389 (by decide) (by omega) (by omega) (fun c_389 => ?_) (fun c_389 => ?_)
                      · exact absurd c_389 (by omega)
                      · refine lv_iload hx hb dL_law_392 (lv_at hl 6 rfl) ?_
                        refine z_bipush (n := 8) hx hb rfl (by decide) dL_law_394 ?_
                        refine z_icmp_gt (tgt := 503) hx hb dL_law_396 (by decide) (by omega) (by omega) (fun c_396 => ?_) (fun c_396 => ?_)
                        · exact absurd c_396 (by omega)
                        · refine lv_iload hx hb dL_law_399 (lv_at hl 5 rfl) ?_
                          refine lv_iload hx hb dL_law_401 (lv_at hl 7 rfl) ?_
                          refine z_icmp_gt (tgt := 503) hx hb dL_law_403 (by decide) (by omega) (by omega) (fun c_403 => ?_) (fun c_403 => ?_)
                          · exact absurd c_403 (by omega)
                          · refine lv_iconst (v := nI 4) hx hb dL_law_406 ci_4 ?_
                            refine lv_iload hx hb dL_law_407 (lv_at hl 5 rfl) ?_
                            refine z_imul hx hb dL_law_409 ?_
                            refine lv_iload hx hb dL_law_410 (lv_at hl 7 rfl) ?_
                            refine z_icmp_lt (tgt := 503) hx hb dL_law_412 (by decide) (by omega) (by omega) (fun c_412 => ?_) (fun c_412 => ?_)
                            · exact absurd c_412 (by omega)
                            · refine lv_aload_n hx hb dL_law_415 rfl (lv_at hl 11 rfl) ?_
                              refine z_roV (w0 := [(h0, .inr (4, [.ref b0, .ref m0, .ref p0, .ref s0, .ref q0, .int (nI q), .int (nI sg), .int (nI rp), .int (nI lo), .int ea])), (p0, .inr (2, [.ref p1, .ref p2, .ref p3, .ref p4, .int (nI cnt)])), (p1, .inl (cI, 25, .inl (nA f))), (p2, .inl (cI, 24, .inl (nA lf))), (p3, .inl (cI, 24, .inl C)), (p4, .inl (cI, 24, .inl (nA ps))), (m0, .inr (1, [.ref m1, .int (nI n)])), (m1, .inl (cI, 24, .inl (nA t)))]) (As := []) (rest := []) ⟨hx, hb, hml, hown, hts⟩ (c_X4_counted l D cI h0 b0 m0 p0 s0 q0 q sg (nI rp) (nI lo) ea p1 p2 p3 p4 f lf C ps cnt m1 t n (by first | assumption | omega) (by first | assumption | omega) (by first | assumption | omega) (by first | assumption | omega)) (cwV 0 hts gL_law_X4_counted rfl rfl rfl hd_X4_counted ⟨Nat.le_of_ble_eq_true rfl, Nat.le_of_ble_eq_true rfl⟩) ⟨hK, hE⟩ (fr_cons (hP 1 _ rfl) (fr_cons (hP 7 _ rfl) (fr_cons (hP 8 _ rfl) (fr_cons (hP 9 _ rfl) (fr_cons (hP 10 _ rfl) (fr_cons (hP 11 _ rfl) (fr_cons (hP 5 _ rfl) (fr_cons (hP 6 _ rfl) (va_P_nil _ _ _))))))))) (va_recv hK hP (ci := 4) (q0 := 1) rfl rfl) rfl hl.1 rfl (Nat.le_of_ble_eq_true rfl) dL_law_416 (by show _ ≤ 769499; omega) (by show _ ≤ 6793128; omega) ?_
                              refine lv_iload hx hb dL_law_419 (lv_at hl 3 rfl) ?_
                              refine z_icmp_ne (tgt := 503) hx hb dL_law_421 (by decide) (by omega) (by omega) (fun c_421 => ?_) (fun c_421 => ?_)
                              · exact absurd hXg.symm c_421
                              · refine lv_iload hx hb dL_law_424 (lv_at hl 3 rfl) ?_
                                refine lv_iload hx hb dL_law_426 (lv_at hl 2 rfl) ?_
                                refine z_icmp_gt (tgt := 503) hx hb dL_law_428 (by decide) (by omega) (by omega) (fun c_428 => ?_) (fun c_428 => ?_)
                                · exact absurd c_428 (by omega)
                                · refine lv_aload_n hx hb dL_law_431 rfl (lv_at hl 11 rfl) ?_
                                  refine z_roV (w0 := [(h0, .inr (4, [.ref b0, .ref m0, .ref p0, .ref s0, .ref q0, .int (nI q), .int (nI sg), .int (nI rp), .int (nI lo), .int ea])), (p0, .inr (2, [.ref p1, .ref p2, .ref p3, .ref p4, .int (nI cnt)])), (p1, .inl (cI, 25, .inl (nA f))), (p2, .inl (cI, 24, .inl (nA lf))), (p3, .inl (cI, 24, .inl C)), (p4, .inl (cI, 24, .inl (nA ps))), (m0, .inr (1, [.ref m1, .int (nI n)])), (m1, .inl (cI, 24, .inl (nA t)))]) (As := []) (rest := []) ⟨hx, hb, hml, hown, hts⟩ (c_X4_cost l D cI h0 b0 m0 p0 s0 q0 q sg (nI rp) (nI lo) ea p1 p2 p3 p4 f lf C ps cnt m1 t n (by first | assumption | omega) (by first | assumption | omega) (by first | assumption | omega) (by first | assumption | omega)) (cwV 0 hts gL_law_X4_cost rfl rfl rfl hd_X4_cost ⟨Nat.le_of_ble_eq_true rfl, Nat.le_of_ble_eq_true rfl⟩) ⟨hK, hE⟩ (fr_cons (hP 1 _ rfl) (fr_cons (hP 7 _ rfl) (fr_cons (hP 8 _ rfl) (fr_cons (hP 9 _ rfl) (fr_cons (hP 10 _ rfl) (fr_cons (hP 11 _ rfl) (fr_cons (hP 5 _ rfl) (fr_cons (hP 6 _ rfl) (va_P_nil _ _ _))))))))) (va_recv hK hP (ci := 4) (q0 := 1) rfl rfl) rfl hl.1 rfl (Nat.le_of_ble_eq_true rfl) dL_law_432 (by show _ ≤ 769499; omega) (by show _ ≤ 6793128; omega) ?_
                                  refine lv_iload hx hb dL_law_435 (lv_at hl 7 rfl) ?_
                                  refine z_if_ne (tgt := 444) hx hb dL_law_437 (by decide) (by omega) (fun c_437 => ?_) (fun c_437 => ?_)
                                  · refine z_bipush (n := 20) hx hb rfl (by decide) dL_law_444 ?_
                                    refine z_icmp_lt (tgt := 503) hx hb dL_law_446 (by decide) (by omega) (by omega) (fun c_446 => ?_) (fun c_446 => ?_)
                                    · exact absurd c_446 (by omega)
                                    · refine lv_aload_n hx hb dL_law_449 rfl (lv_at hl 11 rfl) ?_
                                      refine z_roV (w0 := [(h0, .inr (4, [.ref b0, .ref m0, .ref p0, .ref s0, .ref q0, .int (nI q), .int (nI sg), .int (nI rp), .int (nI lo), .int ea])), (p0, .inr (2, [.ref p1, .ref p2, .ref p3, .ref p4, .int (nI cnt)])), (p1, .inl (cI, 25, .inl (nA f))), (p2, .inl (cI, 24, .inl (nA lf))), (p3, .inl (cI, 24, .inl C)), (p4, .inl (cI, 24, .inl (nA ps))), (m0, .inr (1, [.ref m1, .int (nI n)])), (m1, .inl (cI, 24, .inl (nA t)))]) (As := []) (rest := []) ⟨hx, hb, hml, hown, hts⟩ (c_X4_saved l D cI h0 b0 m0 p0 s0 q0 q sg (nI rp) (nI lo) ea p1 p2 p3 p4 f lf C ps cnt m1 t n (by first | assumption | omega) (by first | assumption | omega) (by first | assumption | omega) (by first | assumption | omega)) (cwV 0 hts gL_law_X4_saved rfl rfl rfl hd_X4_saved ⟨Nat.le_of_ble_eq_true rfl, Nat.le_of_ble_eq_true rfl⟩) ⟨hK, hE⟩ (fr_cons (hP 1 _ rfl) (fr_cons (hP 7 _ rfl) (fr_cons (hP 8 _ rfl) (fr_cons (hP 9 _ rfl) (fr_cons (hP 10 _ rfl) (fr_cons (hP 11 _ rfl) (fr_cons (hP 5 _ rfl) (fr_cons (hP 6 _ rfl) (va_P_nil _ _ _))))))))) (va_recv hK hP (ci := 4) (q0 := 1) rfl rfl) rfl hl.1 rfl (Nat.le_of_ble_eq_true rfl) dL_law_450 (by show _ ≤ 769499; omega) (by show _ ≤ 6793128; omega) ?_
                                      refine z_top (y := nI (costN n (sN (fun j => wc (t j)) n) - costN n (sN (ctW C ps t) cnt))) (pk_sub (by omega)) ?_
                                      refine z_if_lt (tgt := 503) hx hb dL_law_453 (by decide) (by omega) ?_
                                      refine lv_iload hx hb dL_law_456 (lv_at hl 7 rfl) ?_
                                      refine z_if_ne (tgt := 468) hx hb dL_law_458 (by decide) (by omega) (fun c_458 => ?_) (fun c_458 => ?_)
                                      · refine lv_aload_n hx hb dL_law_468 rfl (lv_at hl 11 rfl) ?_
                                        refine z_roV (w0 := [(h0, .inr (4, [.ref b0, .ref m0, .ref p0, .ref s0, .ref q0, .int (nI q), .int (nI sg), .int (nI rp), .int (nI lo), .int ea])), (p0, .inr (2, [.ref p1, .ref p2, .ref p3, .ref p4, .int (nI cnt)])), (p1, .inl (cI, 25, .inl (nA f))), (p2, .inl (cI, 24, .inl (nA lf))), (p3, .inl (cI, 24, .inl C)), (p4, .inl (cI, 24, .inl (nA ps))), (m0, .inr (1, [.ref m1, .int (nI n)])), (m1, .inl (cI, 24, .inl (nA t)))]) (As := []) (rest := []) ⟨hx, hb, hml, hown, hts⟩ (c_X4_cost l D cI h0 b0 m0 p0 s0 q0 q sg (nI rp) (nI lo) ea p1 p2 p3 p4 f lf C ps cnt m1 t n (by first | assumption | omega) (by first | assumption | omega) (by first | assumption | omega) (by first | assumption | omega)) (cwV 0 hts gL_law_X4_cost rfl rfl rfl hd_X4_cost ⟨Nat.le_of_ble_eq_true rfl, Nat.le_of_ble_eq_true rfl⟩) ⟨hK, hE⟩ (fr_cons (hP 1 _ rfl) (fr_cons (hP 7 _ rfl) (fr_cons (hP 8 _ rfl) (fr_cons (hP 9 _ rfl) (fr_cons (hP 10 _ rfl) (fr_cons (hP 11 _ rfl) (fr_cons (hP 5 _ rfl) (fr_cons (hP 6 _ rfl) (va_P_nil _ _ _))))))))) (va_recv hK hP (ci := 4) (q0 := 1) rfl rfl) rfl hl.1 rfl (Nat.le_of_ble_eq_true rfl) dL_law_469 (by show _ ≤ 769499; omega) (by show _ ≤ 6793128; omega) ?_
                                        refine lv_aload_n hx hb dL_law_472 rfl (lv_at hl 11 rfl) ?_
                                        refine z_roV (w0 := [(h0, .inr (4, [.ref b0, .ref m0, .ref p0, .ref s0, .ref q0, .int (nI q), .int (nI sg), .int (nI rp), .int (nI lo), .int ea])), (p0, .inr (2, [.ref p1, .ref p2, .ref p3, .ref p4, .int (nI cnt)])), (p1, .inl (cI, 25, .inl (nA f))), (p2, .inl (cI, 24, .inl (nA lf))), (p3, .inl (cI, 24, .inl C)), (p4, .inl (cI, 24, .inl (nA ps))), (m0, .inr (1, [.ref m1, .int (nI n)])), (m1, .inl (cI, 24, .inl (nA t)))]) (As := []) (rest := [.int (nI (costN n (sN (ctW C ps t) cnt)))]) ⟨hx, hb, hml, hown, hts⟩ (c_X4_saved l D cI h0 b0 m0 p0 s0 q0 q sg (nI rp) (nI lo) ea p1 p2 p3 p4 f lf C ps cnt m1 t n (by first | assumption | omega) (by first | assumption | omega) (by first | assumption | omega) (by first | assumption | omega)) (cwV 0 hts gL_law_X4_saved rfl rfl rfl hd_X4_saved ⟨Nat.le_of_ble_eq_true rfl, Nat.le_of_ble_eq_true rfl⟩) ⟨hK, hE⟩ (fr_cons (hP 1 _ rfl) (fr_cons (hP 7 _ rfl) (fr_cons (hP 8 _ rfl) (fr_cons (hP 9 _ rfl) (fr_cons (hP 10 _ rfl) (fr_cons (hP 11 _ rfl) (fr_cons (hP 5 _ rfl) (fr_cons (hP 6 _ rfl) (va_P_nil _ _ _))))))))) (va_recv hK hP (ci := 4) (q0 := 1) rfl rfl) rfl hl.1 rfl (Nat.le_of_ble_eq_true rfl) dL_law_473 (by show _ ≤ 769499; omega) (by show _ ≤ 6793128; omega) ?_
                                        refine z_top (y := nI (costN n (sN (fun j => wc (t j)) n) - costN n (sN (ctW C ps t) cnt))) (pk_sub (by omega)) ?_
                                        refine z_iadd hx hb dL_law_476 ?_
                                        refine lv_iload hx hb dL_law_477 (lv_at hl 7 rfl) ?_
                                        refine z_if_ne (tgt := 486) hx hb dL_law_479 (by decide) (by omega) (fun c_479 => ?_) (fun c_479 => ?_)
                                        · refine z_bipush (n := 20) hx hb rfl (by decide) dL_law_486 ?_
                                          refine lv_iconst (v := nI 0) hx hb dL_law_488 ci_0 ?_
                                          refine lv_iconst (v := nI 3) hx hb dL_law_489 ci_3 ?_
                                          refine lv_iload hx hb dL_law_490 (lv_at hl 2 rfl) ?_
                                          refine z_bipush (n := 10) hx hb rfl (by decide) dL_law_492 ?_
                                          refine lv_isub hx hb dL_law_494 ?_
                                          refine lv_imul hx hb dL_law_495 ?_
                                          refine va_mmax hx hb (by rw [hml]; exact hl.1.symm) hown (hts (.methodLink RL 139 Lib.Math.max.name) (by decide +kernel)) (hts (.static Lib.Math.max.name) (by decide +kernel)) (hts (.initialized "java/lang/Math") (by decide +kernel)) (hts (.code Lib.Math.max.name Lib.Math.max.code 2 (some .int)) (by decide +kernel)) (Nat.le_of_ble_eq_true rfl) (Nat.le_of_ble_eq_true rfl) (by show _ ≤ 769499; omega) (by show _ ≤ 6793128; omega) dL_law_496 ?_
                                          refine z_top (y := nI (3 * (sN (fun j => wc (t j)) a - 10))) (z_max3 (by omega)) ?_
                                          refine z_iadd hx hb dL_law_499 ?_
                                          refine z_icmp_eq (tgt := 505) hx hb dL_law_500 (by decide) (by omega) (by omega) (fun c_500 => ?_) (fun c_500 => ?_)
                                          · have hPn : va_P D vwCl ((h0, .inr (4, [.ref b0, .ref m0, .ref p0, .ref s0, .ref q0, .int (nI q), .int (nI sg), .int (nI rp), .int (nI lo), .int ea])) :: (b0, .inr (0, [.ref b1, .ref b2, .int (nI k)])) :: (b1, .inl (cI, 32, .inl T)) :: (b2, .inl (cI, 8, .inl (nA Lf))) :: (m0, .inr (1, [.ref m1, .int (nI n)])) :: (m1, .inl (cI, 24, .inl (nA t))) :: (p0, .inr (2, [.ref p1, .ref p2, .ref p3, .ref p4, .int (nI cnt)])) :: (p1, .inl (cI, 25, .inl (nA f))) :: (p2, .inl (cI, 24, .inl (nA lf))) :: (p3, .inl (cI, 24, .inl C)) :: (p4, .inl (cI, 24, .inl (nA ps))) :: (q0, .inr (3, [.int (nI se), .int (nI gf), .int (nI ak), .int (nI gn)])) :: (y0, .inr (5, [.ref yk, .ref ym, .int (nI q), .int (nI sg), .int (nI rp), .int (nI lo), .int ea])) :: (ym, .inl (cI, n, .inl (nA t))) :: (yk, .inl (zQ D, k, .inr (.inr (.inr (.inr (zrf R)))))) :: rwW cI R Lf T k) H := fr_cons (hP 1 _ rfl) (fr_cons (hP 2 _ rfl) (fr_cons (hP 3 _ rfl) (fr_cons (hP 4 _ rfl) (fr_cons (hP 5 _ rfl) (fr_cons (hP 6 _ rfl) (fr_cons (hP 7 _ rfl) (fr_cons (hP 8 _ rfl) (fr_cons (hP 9 _ rfl) (fr_cons (hP 10 _ rfl) (fr_cons (hP 11 _ rfl) (fr_cons (hP 12 _ rfl) (fr_cons (hP 13 _ rfl) (fr_cons (hP 14 _ rfl) (fr_cons (hP 15 _ rfl) (fr_drop 16 hP rfl)))))))))))))))
                                            have hDn : zDD A (h0 :: b0 :: b1 :: b2 :: m0 :: m1 :: p0 :: p1 :: p2 :: p3 :: p4 :: q0 :: y0 :: ym :: yk :: (rwW cI R Lf T k).map Prod.fst) := (zDD_pick (fx := [us, h0, b0, b1, b2, m0, m1, p0, p1, p2, p3, p4, q0, y0, ym, yk]) (tl := ((rwW cI R Lf T k).map Prod.fst)) (want := [h0, b0, b1, b2, m0, m1, p0, p1, p2, p3, p4, q0, y0, ym, yk]) hD [1, 2, 3, 4, 5, 6, 7, 8, 9, 10, 11, 12, 13, 14, 15] (by decide) rfl)
                                            exact K _ _ _ hPn hDn hS (lv_sub hl [5, 6, 7, 8, 9, 10, 11, 12] rfl)
                                          · exact absurd (by omega) c_500
                                        · exact absurd c_479 (by omega)
                                      · exact absurd c_458 (by omega)
                                  · refine lv_iconst (v := nI 0) hx hb dL_law_440 ci_0 ?_
                                    refine lv_goto (tgt := 446) hx hb dL_law_441 (by decide) ?_
                                    refine z_icmp_lt (tgt := 503) hx hb dL_law_446 (by decide) (by omega) (by omega) (fun c_446 => ?_) (fun c_446 => ?_)
                                    · exact absurd c_446 (by omega)
                                    · refine lv_aload_n hx hb dL_law_449 rfl (lv_at hl 11 rfl) ?_
                                      refine z_roV (w0 := [(h0, .inr (4, [.ref b0, .ref m0, .ref p0, .ref s0, .ref q0, .int (nI q), .int (nI sg), .int (nI rp), .int (nI lo), .int ea])), (p0, .inr (2, [.ref p1, .ref p2, .ref p3, .ref p4, .int (nI cnt)])), (p1, .inl (cI, 25, .inl (nA f))), (p2, .inl (cI, 24, .inl (nA lf))), (p3, .inl (cI, 24, .inl C)), (p4, .inl (cI, 24, .inl (nA ps))), (m0, .inr (1, [.ref m1, .int (nI n)])), (m1, .inl (cI, 24, .inl (nA t)))]) (As := []) (rest := []) ⟨hx, hb, hml, hown, hts⟩ (c_X4_saved l D cI h0 b0 m0 p0 s0 q0 q sg (nI rp) (nI lo) ea p1 p2 p3 p4 f lf C ps cnt m1 t n (by first | assumption | omega) (by first | assumption | omega) (by first | assumption | omega) (by first | assumption | omega)) (cwV 0 hts gL_law_X4_saved rfl rfl rfl hd_X4_saved ⟨Nat.le_of_ble_eq_true rfl, Nat.le_of_ble_eq_true rfl⟩) ⟨hK, hE⟩ (fr_cons (hP 1 _ rfl) (fr_cons (hP 7 _ rfl) (fr_cons (hP 8 _ rfl) (fr_cons (hP 9 _ rfl) (fr_cons (hP 10 _ rfl) (fr_cons (hP 11 _ rfl) (fr_cons (hP 5 _ rfl) (fr_cons (hP 6 _ rfl) (va_P_nil _ _ _))))))))) (va_recv hK hP (ci := 4) (q0 := 1) rfl rfl) rfl hl.1 rfl (Nat.le_of_ble_eq_true rfl) dL_law_450 (by show _ ≤ 769499; omega) (by show _ ≤ 6793128; omega) ?_
                                      refine z_top (y := nI (costN n (sN (fun j => wc (t j)) n) - costN n (sN (ctW C ps t) cnt))) (pk_sub (by omega)) ?_
                                      refine z_if_lt (tgt := 503) hx hb dL_law_453 (by decide) (by omega) ?_
                                      refine lv_iload hx hb dL_law_456 (lv_at hl 7 rfl) ?_
                                      refine z_if_ne (tgt := 468) hx hb dL_law_458 (by decide) (by omega) (fun c_458 => ?_) (fun c_458 => ?_)
                                      · exact absurd c_458 (by omega)
                                      · refine lv_aload_n hx hb dL_law_461 rfl (lv_at hl 11 rfl) ?_
                                        refine z_roV (w0 := [(h0, .inr (4, [.ref b0, .ref m0, .ref p0, .ref s0, .ref q0, .int (nI q), .int (nI sg), .int (nI rp), .int (nI lo), .int ea])), (p0, .inr (2, [.ref p1, .ref p2, .ref p3, .ref p4, .int (nI cnt)])), (p1, .inl (cI, 25, .inl (nA f))), (p2, .inl (cI, 24, .inl (nA lf))), (p3, .inl (cI, 24, .inl C)), (p4, .inl (cI, 24, .inl (nA ps))), (m0, .inr (1, [.ref m1, .int (nI n)])), (m1, .inl (cI, 24, .inl (nA t)))]) (As := []) (rest := []) ⟨hx, hb, hml, hown, hts⟩ (c_X4_cost l D cI h0 b0 m0 p0 s0 q0 q sg (nI rp) (nI lo) ea p1 p2 p3 p4 f lf C ps cnt m1 t n (by first | assumption | omega) (by first | assumption | omega) (by first | assumption | omega) (by first | assumption | omega)) (cwV 0 hts gL_law_X4_cost rfl rfl rfl hd_X4_cost ⟨Nat.le_of_ble_eq_true rfl, Nat.le_of_ble_eq_true rfl⟩) ⟨hK, hE⟩ (fr_cons (hP 1 _ rfl) (fr_cons (hP 7 _ rfl) (fr_cons (hP 8 _ rfl) (fr_cons (hP 9 _ rfl) (fr_cons (hP 10 _ rfl) (fr_cons (hP 11 _ rfl) (fr_cons (hP 5 _ rfl) (fr_cons (hP 6 _ rfl) (va_P_nil _ _ _))))))))) (va_recv hK hP (ci := 4) (q0 := 1) rfl rfl) rfl hl.1 rfl (Nat.le_of_ble_eq_true rfl) dL_law_462 (by show _ ≤ 769499; omega) (by show _ ≤ 6793128; omega) ?_
                                        refine z_if_ne (tgt := 503) hx hb dL_law_465 (by decide) (by omega) (fun c_465 => ?_) (fun c_465 => ?_)
                                        · exact absurd c_465 (by omega)
                                        · refine lv_aload_n hx hb dL_law_468 rfl (lv_at hl 11 rfl) ?_
                                          refine z_roV (w0 := [(h0, .inr (4, [.ref b0, .ref m0, .ref p0, .ref s0, .ref q0, .int (nI q), .int (nI sg), .int (nI rp), .int (nI lo), .int ea])), (p0, .inr (2, [.ref p1, .ref p2, .ref p3, .ref p4, .int (nI cnt)])), (p1, .inl (cI, 25, .inl (nA f))), (p2, .inl (cI, 24, .inl (nA lf))), (p3, .inl (cI, 24, .inl C)), (p4, .inl (cI, 24, .inl (nA ps))), (m0, .inr (1, [.ref m1, .int (nI n)])), (m1, .inl (cI, 24, .inl (nA t)))]) (As := []) (rest := []) ⟨hx, hb, hml, hown, hts⟩ (c_X4_cost l D cI h0 b0 m0 p0 s0 q0 q sg (nI rp) (nI lo) ea p1 p2 p3 p4 f lf C ps cnt m1 t n (by first | assumption | omega) (by first | assumption | omega) (by first | assumption | omega) (by first | assumption | omega)) (cwV 0 hts gL_law_X4_cost rfl rfl rfl hd_X4_cost ⟨Nat.le_of_ble_eq_true rfl, Nat.le_of_ble_eq_true rfl⟩) ⟨hK, hE⟩ (fr_cons (hP 1 _ rfl) (fr_cons (hP 7 _ rfl) (fr_cons (hP 8 _ rfl) (fr_cons (hP 9 _ rfl) (fr_cons (hP 10 _ rfl) (fr_cons (hP 11 _ rfl) (fr_cons (hP 5 _ rfl) (fr_cons (hP 6 _ rfl) (va_P_nil _ _ _))))))))) (va_recv hK hP (ci := 4) (q0 := 1) rfl rfl) rfl hl.1 rfl (Nat.le_of_ble_eq_true rfl) dL_law_469 (by show _ ≤ 769499; omega) (by show _ ≤ 6793128; omega) ?_
                                          refine lv_aload_n hx hb dL_law_472 rfl (lv_at hl 11 rfl) ?_
                                          refine z_roV (w0 := [(h0, .inr (4, [.ref b0, .ref m0, .ref p0, .ref s0, .ref q0, .int (nI q), .int (nI sg), .int (nI rp), .int (nI lo), .int ea])), (p0, .inr (2, [.ref p1, .ref p2, .ref p3, .ref p4, .int (nI cnt)])), (p1, .inl (cI, 25, .inl (nA f))), (p2, .inl (cI, 24, .inl (nA lf))), (p3, .inl (cI, 24, .inl C)), (p4, .inl (cI, 24, .inl (nA ps))), (m0, .inr (1, [.ref m1, .int (nI n)])), (m1, .inl (cI, 24, .inl (nA t)))]) (As := []) (rest := [.int (nI (costN n (sN (ctW C ps t) cnt)))]) ⟨hx, hb, hml, hown, hts⟩ (c_X4_saved l D cI h0 b0 m0 p0 s0 q0 q sg (nI rp) (nI lo) ea p1 p2 p3 p4 f lf C ps cnt m1 t n (by first | assumption | omega) (by first | assumption | omega) (by first | assumption | omega) (by first | assumption | omega)) (cwV 0 hts gL_law_X4_saved rfl rfl rfl hd_X4_saved ⟨Nat.le_of_ble_eq_true rfl, Nat.le_of_ble_eq_true rfl⟩) ⟨hK, hE⟩ (fr_cons (hP 1 _ rfl) (fr_cons (hP 7 _ rfl) (fr_cons (hP 8 _ rfl) (fr_cons (hP 9 _ rfl) (fr_cons (hP 10 _ rfl) (fr_cons (hP 11 _ rfl) (fr_cons (hP 5 _ rfl) (fr_cons (hP 6 _ rfl) (va_P_nil _ _ _))))))))) (va_recv hK hP (ci := 4) (q0 := 1) rfl rfl) rfl hl.1 rfl (Nat.le_of_ble_eq_true rfl) dL_law_473 (by show _ ≤ 769499; omega) (by show _ ≤ 6793128; omega) ?_
                                          refine z_top (y := nI (costN n (sN (fun j => wc (t j)) n) - costN n (sN (ctW C ps t) cnt))) (pk_sub (by omega)) ?_
                                          refine z_iadd hx hb dL_law_476 ?_
                                          refine lv_iload hx hb dL_law_477 (lv_at hl 7 rfl) ?_
                                          refine z_if_ne (tgt := 486) hx hb dL_law_479 (by decide) (by omega) (fun c_479 => ?_) (fun c_479 => ?_)
                                          · exact absurd c_479 (by omega)
                                          · refine lv_iconst (v := nI 0) hx hb dL_law_482 ci_0 ?_
                                            refine lv_goto (tgt := 500) hx hb dL_law_483 (by decide) ?_
                                            refine z_icmp_eq (tgt := 505) hx hb dL_law_500 (by decide) (by omega) (by omega) (fun c_500 => ?_) (fun c_500 => ?_)
                                            · have hPn : va_P D vwCl ((h0, .inr (4, [.ref b0, .ref m0, .ref p0, .ref s0, .ref q0, .int (nI q), .int (nI sg), .int (nI rp), .int (nI lo), .int ea])) :: (b0, .inr (0, [.ref b1, .ref b2, .int (nI k)])) :: (b1, .inl (cI, 32, .inl T)) :: (b2, .inl (cI, 8, .inl (nA Lf))) :: (m0, .inr (1, [.ref m1, .int (nI n)])) :: (m1, .inl (cI, 24, .inl (nA t))) :: (p0, .inr (2, [.ref p1, .ref p2, .ref p3, .ref p4, .int (nI cnt)])) :: (p1, .inl (cI, 25, .inl (nA f))) :: (p2, .inl (cI, 24, .inl (nA lf))) :: (p3, .inl (cI, 24, .inl C)) :: (p4, .inl (cI, 24, .inl (nA ps))) :: (q0, .inr (3, [.int (nI se), .int (nI gf), .int (nI ak), .int (nI gn)])) :: (y0, .inr (5, [.ref yk, .ref ym, .int (nI q), .int (nI sg), .int (nI rp), .int (nI lo), .int ea])) :: (ym, .inl (cI, n, .inl (nA t))) :: (yk, .inl (zQ D, k, .inr (.inr (.inr (.inr (zrf R)))))) :: rwW cI R Lf T k) H := fr_cons (hP 1 _ rfl) (fr_cons (hP 2 _ rfl) (fr_cons (hP 3 _ rfl) (fr_cons (hP 4 _ rfl) (fr_cons (hP 5 _ rfl) (fr_cons (hP 6 _ rfl) (fr_cons (hP 7 _ rfl) (fr_cons (hP 8 _ rfl) (fr_cons (hP 9 _ rfl) (fr_cons (hP 10 _ rfl) (fr_cons (hP 11 _ rfl) (fr_cons (hP 12 _ rfl) (fr_cons (hP 13 _ rfl) (fr_cons (hP 14 _ rfl) (fr_cons (hP 15 _ rfl) (fr_drop 16 hP rfl)))))))))))))))
                                              have hDn : zDD A (h0 :: b0 :: b1 :: b2 :: m0 :: m1 :: p0 :: p1 :: p2 :: p3 :: p4 :: q0 :: y0 :: ym :: yk :: (rwW cI R Lf T k).map Prod.fst) := (zDD_pick (fx := [us, h0, b0, b1, b2, m0, m1, p0, p1, p2, p3, p4, q0, y0, ym, yk]) (tl := ((rwW cI R Lf T k).map Prod.fst)) (want := [h0, b0, b1, b2, m0, m1, p0, p1, p2, p3, p4, q0, y0, ym, yk]) hD [1, 2, 3, 4, 5, 6, 7, 8, 9, 10, 11, 12, 13, 14, 15] (by decide) rfl)
                                              exact K _ _ _ hPn hDn hS (lv_sub hl [5, 6, 7, 8, 9, 10, 11, 12] rfl)
                                            · exact absurd (by omega) c_500
                  · have hLc := hL c (by omega)
                    have hcb := cN_le (fun i => C (ps i) = nI c) cnt
                    have huc := huf c (by omega)
                    refine lv_aload_n hx hb dL_law_336 rfl (lv_at hl 11 rfl) ?_
                    refine lv_iload hx hb dL_law_337 (lv_at hl 0 rfl) ?_
                    refine z_roV (w0 := [(h0, .inr (4, [.ref b0, .ref m0, .ref p0, .ref s0, .ref q0, .int (nI q), .int (nI sg), .int (nI rp), .int (nI lo), .int ea])), (b0, .inr (0, [.ref b1, .ref b2, .int (nI k)])), (p0, .inr (2, [.ref p1, .ref p2, .ref p3, .ref p4, .int (nI cnt)])), (p1, .inl (cI, 25, .inl (nA f))), (p2, .inl (cI, 24, .inl (nA lf))), (p3, .inl (cI, 24, .inl C)), (p4, .inl (cI, 24, .inl (nA ps)))]) (As := [.int (nI c)]) (rest := []) ⟨hx, hb, hml, hown, hts⟩ (c_X4_usesOf l D cI h0 b0 m0 p0 s0 q0 q sg (nI rp) (nI lo) ea b1 b2 k p1 p2 p3 p4 f lf C ps cnt c (by first | assumption | omega) (by first | assumption | omega) (fun j hj => by have := hst j hj; omega) (by first | assumption | omega)) (cwV 1 hts gL_law_X4_usesOf rfl rfl rfl hd_X4_usesOf ⟨Nat.le_of_ble_eq_true rfl, Nat.le_of_ble_eq_true rfl⟩) ⟨hK, hE⟩ (fr_cons (hP 1 _ rfl) (fr_cons (hP 2 _ rfl) (fr_cons (hP 7 _ rfl) (fr_cons (hP 8 _ rfl) (fr_cons (hP 9 _ rfl) (fr_cons (hP 10 _ rfl) (fr_cons (hP 11 _ rfl) (va_P_nil _ _ _)))))))) (va_recv hK hP (ci := 4) (q0 := 1) rfl rfl) rfl hl.1 rfl (Nat.le_of_ble_eq_true rfl) dL_law_339 (by show _ ≤ 769499; omega) (by show _ ≤ 6793128; omega) ?_
                    refine lv_aload hx hb dL_law_342 (lv_at hl 1 rfl) ?_
                    refine lv_iload hx hb dL_law_344 (lv_at hl 0 rfl) ?_
                    refine z_ialdN hx hb hK hP 0 0 rfl rfl (by omega) (by omega) dL_law_346 ?_
                    refine z_icmp_ne (tgt := 370) hx hb dL_law_347 (by decide) (by omega) (by omega) (fun c_347 => ?_) (fun c_347 => ?_)
                    · exact absurd huc.symm c_347
                    · refine lv_aload_n hx hb dL_law_350 rfl (lv_at hl 11 rfl) ?_
                      refine lv_iload hx hb dL_law_351 (lv_at hl 0 rfl) ?_
                      refine z_roV (w0 := [(h0, .inr (4, [.ref b0, .ref m0, .ref p0, .ref s0, .ref q0, .int (nI q), .int (nI sg), .int (nI rp), .int (nI lo), .int ea])), (b0, .inr (0, [.ref b1, .ref b2, .int (nI k)])), (b1, .inl (cI, 32, .inl T)), (b2, .inl (cI, 8, .inl (nA Lf)))]) (As := [.int (nI c)]) (rest := []) ⟨hx, hb, hml, hown, hts⟩ (c_X4_lengthOf l D cI h0 b0 m0 p0 s0 q0 q sg (nI rp) (nI lo) ea b1 b2 T Lf k c (by first | assumption | omega) (by first | assumption | omega)) (cwV 1 hts gL_law_X4_lengthOf rfl rfl rfl hd_X4_lengthOf ⟨Nat.le_of_ble_eq_true rfl, Nat.le_of_ble_eq_true rfl⟩) ⟨hK, hE⟩ (fr_cons (hP 1 _ rfl) (fr_cons (hP 2 _ rfl) (fr_cons (hP 3 _ rfl) (fr_cons (hP 4 _ rfl) (va_P_nil _ _ _))))) (va_recv hK hP (ci := 4) (q0 := 1) rfl rfl) rfl hl.1 rfl (Nat.le_of_ble_eq_true rfl) dL_law_353 (by show _ ≤ 769499; omega) (by show _ ≤ 6793128; omega) ?_
                      refine lv_iconst (v := nI 2) hx hb dL_law_356 ci_2 ?_
                      refine z_icmp_lt (tgt := 370) hx hb dL_law_357 (by decide) (by omega) (by omega) (fun c_357 => ?_) (fun c_357 => ?_)
                      · exact absurd c_357 (by omega)
                      · refine lv_aload_n hx hb dL_law_360 rfl (lv_at hl 11 rfl) ?_
                        refine lv_iload hx hb dL_law_361 (lv_at hl 0 rfl) ?_
                        refine z_roV (w0 := [(h0, .inr (4, [.ref b0, .ref m0, .ref p0, .ref s0, .ref q0, .int (nI q), .int (nI sg), .int (nI rp), .int (nI lo), .int ea])), (b0, .inr (0, [.ref b1, .ref b2, .int (nI k)])), (b1, .inl (cI, 32, .inl T)), (b2, .inl (cI, 8, .inl (nA Lf)))]) (As := [.int (nI c)]) (rest := []) ⟨hx, hb, hml, hown, hts⟩ (c_X4_lengthOf l D cI h0 b0 m0 p0 s0 q0 q sg (nI rp) (nI lo) ea b1 b2 T Lf k c (by first | assumption | omega) (by first | assumption | omega)) (cwV 1 hts gL_law_X4_lengthOf rfl rfl rfl hd_X4_lengthOf ⟨Nat.le_of_ble_eq_true rfl, Nat.le_of_ble_eq_true rfl⟩) ⟨hK, hE⟩ (fr_cons (hP 1 _ rfl) (fr_cons (hP 2 _ rfl) (fr_cons (hP 3 _ rfl) (fr_cons (hP 4 _ rfl) (va_P_nil _ _ _))))) (va_recv hK hP (ci := 4) (q0 := 1) rfl rfl) rfl hl.1 rfl (Nat.le_of_ble_eq_true rfl) dL_law_363 (by show _ ≤ 769499; omega) (by show _ ≤ 6793128; omega) ?_
                        refine lv_iconst (v := nI 4) hx hb dL_law_366 ci_4 ?_
                        refine z_icmp_le (tgt := 372) hx hb dL_law_367 (by decide) (by omega) (by omega) (fun c_367 => ?_) (fun c_367 => ?_)
                        · refine lv_iinc (v := nI (c + 1)) (lv' := [(12, .int (nI (c + 1))), (11, .ref us), (10, .int (nI (sN (fun j => wc (t j)) a))), (9, .int (nI (sN (ctW C ps t) g))), (8, .int (nI (posN lf g))), (7, .int (nI cnt)), (6, .int (nI k)), (5, .int (nI n)), (4, .int x), (3, .int (nI tm)), (2, .ref y0), (1, .ref h0), (0, .ref b)]) hx hb dL_law_372 hl (k := 0) rfl (z_inc1 _) (by decide) rfl (fun ls hl => ?_)
                          refine lv_goto (tgt := 329) hx hb dL_law_375 (by decide) ?_
                          exact ih_329 (c + 1) (by omega) (by omega) H locs ls hP hS (lv_sub hl [0, 1, 2, 3, 4, 5, 6, 7, 8, 9, 10, 11, 12] rfl)
                        · exact absurd c_367 (by omega)
              exact lp_329 ((k - 0) + 1) 0 (Nat.zero_le _) (Nat.lt_succ_self _) H locs ls hP hS hl
            · refine lv_iload hx hb dL_law_299 (lv_at hl 2 rfl) ?_
              refine lv_aload_n hx hb dL_law_301 rfl (lv_at hl 11 rfl) ?_
              refine lv_iload hx hb dL_law_302 (lv_at hl 0 rfl) ?_
              have hta := ht a (by omega)
              have hsa := sN_le (f := fun j => wc (t j)) (b := 2) a (fun j _ => wc_le _)
              refine z_roV (w0 := [(h0, .inr (4, [.ref b0, .ref m0, .ref p0, .ref s0, .ref q0, .int (nI q), .int (nI sg), .int (nI rp), .int (nI lo), .int ea])), (m0, .inr (1, [.ref m1, .int (nI n)])), (m1, .inl (cI, 24, .inl (nA t)))]) (As := [.int (nI a)]) (rest := [.int (nI (sN (fun j => wc (t j)) a))]) ⟨hx, hb, hml, hown, hts⟩ (c_X4_typeOf l D cI h0 b0 m0 p0 s0 q0 q sg (nI rp) (nI lo) ea m1 t n a (by first | assumption | omega) (by first | assumption | omega)) (cwV 1 hts gL_law_X4_typeOf rfl rfl rfl hd_X4_typeOf ⟨Nat.le_of_ble_eq_true rfl, Nat.le_of_ble_eq_true rfl⟩) ⟨hK, hE⟩ (fr_cons (hP 1 _ rfl) (fr_cons (hP 5 _ rfl) (fr_cons (hP 6 _ rfl) (va_P_nil _ _ _)))) (va_recv hK hP (ci := 4) (q0 := 1) rfl rfl) rfl hl.1 rfl (Nat.le_of_ble_eq_true rfl) dL_law_304 (by show _ ≤ 769499; omega) (by show _ ≤ 6793128; omega) ?_
              refine z_bipush (n := 8) hx hb rfl (by decide) dL_law_307 ?_
              refine z_icmp_lt (tgt := 316) hx hb dL_law_309 (by decide) (by omega) (by omega) (fun c_309 => ?_) (fun c_309 => ?_)
              · refine lv_iconst (v := nI 1) hx hb dL_law_316 ci_1 ?_
                refine z_iadd hx hb dL_law_317 ?_
                refine z_top (y := nI (sN (fun j => wc (t j)) (a + 1))) (congrArg nI (by show _ = sN (fun j => wc (t j)) a + wc (t a); first | (rw [show wc (t a) = 1 from if_neg (by omega)]; done) | (rw [show wc (t a) = 2 from if_pos (by omega)]; done))) ?_
                refine lv_istore (lv' := [(10, .int (nI (sN (fun j => wc (t j)) (a + 1)))), (12, .int (nI a)), (11, .ref us), (9, .int (nI (sN (ctW C ps t) g))), (8, .int (nI (posN lf g))), (7, .int (nI cnt)), (6, .int (nI k)), (5, .int (nI n)), (4, .int x), (3, .int (nI tm)), (2, .ref y0), (1, .ref h0), (0, .ref b)]) hx hb dL_law_318 hl (by decide) rfl (fun ls hl => ?_)
                refine lv_iinc (v := nI (a + 1)) (lv' := [(12, .int (nI (a + 1))), (10, .int (nI (sN (fun j => wc (t j)) (a + 1)))), (11, .ref us), (9, .int (nI (sN (ctW C ps t) g))), (8, .int (nI (posN lf g))), (7, .int (nI cnt)), (6, .int (nI k)), (5, .int (nI n)), (4, .int x), (3, .int (nI tm)), (2, .ref y0), (1, .ref h0), (0, .ref b)]) hx hb dL_law_320 hl (k := 1) rfl (z_inc1 _) (by decide) rfl (fun ls hl => ?_)
                refine lv_goto (tgt := 292) hx hb dL_law_323 (by decide) ?_
                exact ih_292 (a + 1) (by omega) (by omega) H locs ls hP hS (lv_sub hl [0, 2, 1, 3, 4, 5, 6, 7, 8, 9, 10, 11, 12] rfl)
              · refine lv_iconst (v := nI 2) hx hb dL_law_312 ci_2 ?_
                refine lv_goto (tgt := 317) hx hb dL_law_313 (by decide) ?_
                refine z_iadd hx hb dL_law_317 ?_
                refine z_top (y := nI (sN (fun j => wc (t j)) (a + 1))) (congrArg nI (by show _ = sN (fun j => wc (t j)) a + wc (t a); first | (rw [show wc (t a) = 1 from if_neg (by omega)]; done) | (rw [show wc (t a) = 2 from if_pos (by omega)]; done))) ?_
                refine lv_istore (lv' := [(10, .int (nI (sN (fun j => wc (t j)) (a + 1)))), (12, .int (nI a)), (11, .ref us), (9, .int (nI (sN (ctW C ps t) g))), (8, .int (nI (posN lf g))), (7, .int (nI cnt)), (6, .int (nI k)), (5, .int (nI n)), (4, .int x), (3, .int (nI tm)), (2, .ref y0), (1, .ref h0), (0, .ref b)]) hx hb dL_law_318 hl (by decide) rfl (fun ls hl => ?_)
                refine lv_iinc (v := nI (a + 1)) (lv' := [(12, .int (nI (a + 1))), (10, .int (nI (sN (fun j => wc (t j)) (a + 1)))), (11, .ref us), (9, .int (nI (sN (ctW C ps t) g))), (8, .int (nI (posN lf g))), (7, .int (nI cnt)), (6, .int (nI k)), (5, .int (nI n)), (4, .int x), (3, .int (nI tm)), (2, .ref y0), (1, .ref h0), (0, .ref b)]) hx hb dL_law_320 hl (k := 1) rfl (z_inc1 _) (by decide) rfl (fun ls hl => ?_)
                refine lv_goto (tgt := 292) hx hb dL_law_323 (by decide) ?_
                exact ih_292 (a + 1) (by omega) (by omega) H locs ls hP hS (lv_sub hl [0, 2, 1, 3, 4, 5, 6, 7, 8, 9, 10, 11, 12] rfl)
        exact lp_292 ((n - 0) + 1) 0 (Nat.zero_le _) (Nat.lt_succ_self _) H locs ls hP hS hl
      · refine lv_aload_n hx hb dL_law_133 rfl (lv_at hl 11 rfl) ?_
        refine lv_iload hx hb dL_law_134 (lv_at hl 0 rfl) ?_
        have hgp2 := hpart.2.1 g c_130
        have hlb := hpart.1.2.2.2 (posN lf g) (Nat.zero_le _) hgp2.2
        have hsb := sN_le (f := ctW C ps t) (b := 2) g (fun j _ => ctW_le C ps t j)
        have hrng := C_rng (C := C) (ps := ps) (g := g) hk (by rcases C_k hpart hk hL c_130 with h9 | ⟨j, a, b9, _⟩; exact Or.inl h9.2.1; exact Or.inr ⟨j, a, b9⟩)
        have htp := ht (posN lf g) hgp2.2
        refine z_roV (w0 := [(h0, .inr (4, [.ref b0, .ref m0, .ref p0, .ref s0, .ref q0, .int (nI q), .int (nI sg), .int (nI rp), .int (nI lo), .int ea])), (p0, .inr (2, [.ref p1, .ref p2, .ref p3, .ref p4, .int (nI cnt)])), (p1, .inl (cI, 25, .inl (nA f))), (p2, .inl (cI, 24, .inl (nA lf))), (p3, .inl (cI, 24, .inl C)), (p4, .inl (cI, 24, .inl (nA ps)))]) (As := [.int (nI g)]) (rest := []) ⟨hx, hb, hml, hown, hts⟩ (c_X4_codeOf l D cI h0 b0 m0 p0 s0 q0 q sg (nI rp) (nI lo) ea p1 p2 p3 p4 f lf C ps cnt g (by first | assumption | omega) (fun j hj => by have := hst j hj; omega) (by first | assumption | omega)) (cwV 1 hts gL_law_X4_codeOf rfl rfl rfl hd_X4_codeOf ⟨Nat.le_of_ble_eq_true rfl, Nat.le_of_ble_eq_true rfl⟩) ⟨hK, hE⟩ (fr_cons (hP 1 _ rfl) (fr_cons (hP 7 _ rfl) (fr_cons (hP 8 _ rfl) (fr_cons (hP 9 _ rfl) (fr_cons (hP 10 _ rfl) (fr_cons (hP 11 _ rfl) (va_P_nil _ _ _))))))) (va_recv hK hP (ci := 4) (q0 := 1) rfl rfl) rfl hl.1 rfl (Nat.le_of_ble_eq_true rfl) dL_law_136 (by show _ ≤ 769499; omega) (by show _ ≤ 6793128; omega) ?_
        refine lv_istore (lv' := [(13, .int (C (ps g))), (12, .int (nI g)), (11, .ref us), (10, .int (nI 0)), (9, .int (nI (sN (ctW C ps t) g))), (8, .int (nI (posN lf g))), (7, .int (nI cnt)), (6, .int (nI k)), (5, .int (nI n)), (4, .int x), (3, .int (nI tm)), (2, .ref y0), (1, .ref h0), (0, .ref b)]) hx hb dL_law_139 hl (by decide) rfl (fun ls hl => ?_)
        refine lv_aload_n hx hb dL_law_141 rfl (lv_at hl 12 rfl) ?_
        refine lv_iload hx hb dL_law_142 (lv_at hl 1 rfl) ?_
        refine z_roV (w0 := [(h0, .inr (4, [.ref b0, .ref m0, .ref p0, .ref s0, .ref q0, .int (nI q), .int (nI sg), .int (nI rp), .int (nI lo), .int ea])), (p0, .inr (2, [.ref p1, .ref p2, .ref p3, .ref p4, .int (nI cnt)])), (p1, .inl (cI, 25, .inl (nA f))), (p2, .inl (cI, 24, .inl (nA lf))), (p3, .inl (cI, 24, .inl C)), (p4, .inl (cI, 24, .inl (nA ps)))]) (As := [.int (nI g)]) (rest := []) ⟨hx, hb, hml, hown, hts⟩ (c_X4_startOf l D cI h0 b0 m0 p0 s0 q0 q sg (nI rp) (nI lo) ea p1 p2 p3 p4 f lf C ps cnt g (by first | assumption | omega) (by first | assumption | omega)) (cwV 1 hts gL_law_X4_startOf rfl rfl rfl hd_X4_startOf ⟨Nat.le_of_ble_eq_true rfl, Nat.le_of_ble_eq_true rfl⟩) ⟨hK, hE⟩ (fr_cons (hP 1 _ rfl) (fr_cons (hP 7 _ rfl) (fr_cons (hP 8 _ rfl) (fr_cons (hP 9 _ rfl) (fr_cons (hP 10 _ rfl) (fr_cons (hP 11 _ rfl) (va_P_nil _ _ _))))))) (va_recv hK hP (ci := 4) (q0 := 1) rfl rfl) rfl hl.1 rfl (Nat.le_of_ble_eq_true rfl) dL_law_144 (by show _ ≤ 769499; omega) (by show _ ≤ 6793128; omega) ?_
        refine lv_iload hx hb dL_law_147 (lv_at hl 5 rfl) ?_
        refine z_icmp_ne (tgt := 165) hx hb dL_law_149 (by decide) (by omega) (by omega) (fun c_149 => ?_) (fun c_149 => ?_)
        · exact absurd hgp2.1 c_149
        · refine lv_iload hx hb dL_law_152 (lv_at hl 0 rfl) ?_
          refine lv_iconst (v := -1) hx hb dL_law_154 ci_m1 ?_
          refine lv_icmp_lt (tgt := 165) hx hb dL_law_155 (by decide) (fun c_155 => ?_) (fun c_155 => ?_)
          · exact absurd c_155 hrng.1
          · refine lv_iload hx hb dL_law_158 (lv_at hl 0 rfl) ?_
            refine lv_iload hx hb dL_law_160 (lv_at hl 7 rfl) ?_
            refine lv_icmp_lt (tgt := 167) hx hb dL_law_162 (by decide) (fun c_162 => ?_) (fun c_162 => ?_)
            · refine lv_iload hx hb dL_law_167 (lv_at hl 0 rfl) ?_
              refine lv_if_ge (tgt := 176) hx hb dL_law_169 (by decide) (fun c_169 => ?_) (fun c_169 => ?_)
              · obtain ⟨j, hj, hjC, hjl, hjn, hjm⟩ := (C_k hpart hk hL c_130).resolve_left (fun h9 => i32_c h9.1 c_169)
                have hLj := hL j hj
                have hub : us9 j ≤ 24 := by rw [hu j hj]; have h9 := cN_le (fun i => C (ps i) = nI j) g; omega
                rw [hgp2.1] at hjl hjn hjm
                refine lv_aload_n hx hb dL_law_176 rfl (lv_at hl 12 rfl) ?_
                refine lv_iload hx hb dL_law_177 (lv_at hl 0 rfl) ?_
                refine z_top (y := nI j) hjC ?_
                refine z_roV (w0 := [(h0, .inr (4, [.ref b0, .ref m0, .ref p0, .ref s0, .ref q0, .int (nI q), .int (nI sg), .int (nI rp), .int (nI lo), .int ea])), (b0, .inr (0, [.ref b1, .ref b2, .int (nI k)])), (b1, .inl (cI, 32, .inl T)), (b2, .inl (cI, 8, .inl (nA Lf)))]) (As := [.int (nI j)]) (rest := []) ⟨hx, hb, hml, hown, hts⟩ (c_X4_lengthOf l D cI h0 b0 m0 p0 s0 q0 q sg (nI rp) (nI lo) ea b1 b2 T Lf k j (by first | assumption | omega) (by first | assumption | omega)) (cwV 1 hts gL_law_X4_lengthOf rfl rfl rfl hd_X4_lengthOf ⟨Nat.le_of_ble_eq_true rfl, Nat.le_of_ble_eq_true rfl⟩) ⟨hK, hE⟩ (fr_cons (hP 1 _ rfl) (fr_cons (hP 2 _ rfl) (fr_cons (hP 3 _ rfl) (fr_cons (hP 4 _ rfl) (va_P_nil _ _ _))))) (va_recv hK hP (ci := 4) (q0 := 1) rfl rfl) rfl hl.1 rfl (Nat.le_of_ble_eq_true rfl) dL_law_179 (by show _ ≤ 769499; omega) (by show _ ≤ 6793128; omega) ?_
                refine lv_istore (lv' := [(14, .int (nI (Lf j))), (13, .int (C (ps g))), (12, .int (nI g)), (11, .ref us), (10, .int (nI 0)), (9, .int (nI (sN (ctW C ps t) g))), (8, .int (nI (posN lf g))), (7, .int (nI cnt)), (6, .int (nI k)), (5, .int (nI n)), (4, .int x), (3, .int (nI tm)), (2, .ref y0), (1, .ref h0), (0, .ref b)]) hx hb dL_law_182 hl (by decide) rfl (fun ls hl => ?_)
                refine lv_iload hx hb dL_law_184 (lv_at hl 1 rfl) ?_
                refine lv_if_lt (tgt := 250) hx hb dL_law_186 (by decide) (fun c_186 => ?_) (fun c_186 => ?_)
                · exact absurd c_186 (by rw [hjC]; exact nI_pos (by omega))
                · refine lv_aload hx hb dL_law_189 (lv_at hl 3 rfl) ?_
                  refine lv_iload hx hb dL_law_191 (lv_at hl 1 rfl) ?_
                  refine z_top (y := nI j) hjC ?_
                  refine lv_dup2_11 hx hb dL_law_193 rfl rfl ?_
                  refine z_ialdN hx hb hK hP 0 0 rfl rfl (by omega) (by omega) dL_law_194 ?_
                  refine lv_iconst (v := nI 1) hx hb dL_law_195 ci_1 ?_
                  refine z_iadd hx hb dL_law_196 ?_
                  refine z_iastN hx hb hK hP hD rfl hS 0 0 rfl rfl (by omega) (by omega) dL_law_197 (fun H locs hP hS => ?_)
                  have hP : va_P D vwCl ((us, .inl (cI, k, .inl (nA (updN us9 j ((us9 j) + 1))))) :: (h0, .inr (4, [.ref b0, .ref m0, .ref p0, .ref s0, .ref q0, .int (nI q), .int (nI sg), .int (nI rp), .int (nI lo), .int ea])) :: (b0, .inr (0, [.ref b1, .ref b2, .int (nI k)])) :: (b1, .inl (cI, 32, .inl T)) :: (b2, .inl (cI, 8, .inl (nA Lf))) :: (m0, .inr (1, [.ref m1, .int (nI n)])) :: (m1, .inl (cI, 24, .inl (nA t))) :: (p0, .inr (2, [.ref p1, .ref p2, .ref p3, .ref p4, .int (nI cnt)])) :: (p1, .inl (cI, 25, .inl (nA f))) :: (p2, .inl (cI, 24, .inl (nA lf))) :: (p3, .inl (cI, 24, .inl C)) :: (p4, .inl (cI, 24, .inl (nA ps))) :: (q0, .inr (3, [.int (nI se), .int (nI gf), .int (nI ak), .int (nI gn)])) :: (y0, .inr (5, [.ref yk, .ref ym, .int (nI q), .int (nI sg), .int (nI rp), .int (nI lo), .int ea])) :: (ym, .inl (cI, n, .inl (nA t))) :: (yk, .inl (zQ D, k, .inr (.inr (.inr (.inr (zrf R)))))) :: rwW cI R Lf T k) H := hP
                  refine lv_iload hx hb dL_law_198 (lv_at hl 6 rfl) ?_
                  refine lv_iload hx hb dL_law_200 (lv_at hl 0 rfl) ?_
                  refine z_iadd hx hb dL_law_202 ?_
                  refine lv_iload hx hb dL_law_203 (lv_at hl 9 rfl) ?_
                  refine z_icmp_le (tgt := 210) hx hb dL_law_205 (by decide) (by omega) (by omega) (fun c_205 => ?_) (fun c_205 => ?_)
                  · refine lv_iconst (v := nI 0) hx hb dL_law_210 ci_0 ?_
                    refine lv_istore (lv' := [(15, .int (nI 0)), (14, .int (nI (Lf j))), (13, .int (C (ps g))), (12, .int (nI g)), (11, .ref us), (10, .int (nI 0)), (9, .int (nI (sN (ctW C ps t) g))), (8, .int (nI (posN lf g))), (7, .int (nI cnt)), (6, .int (nI k)), (5, .int (nI n)), (4, .int x), (3, .int (nI tm)), (2, .ref y0), (1, .ref h0), (0, .ref b)]) hx hb dL_law_211 hl (by decide) rfl (fun ls hl => ?_)
                    have lp_213 : ∀ (Nf : Nat) (pp : Nat) (hpp : pp ≤ Lf j) (hN : Lf j - pp < Nf) (H : Heap) (locs : List Loc) (ls : Array Slot), va_P D vwCl ((us, .inl (cI, k, .inl (nA (updN us9 j ((us9 j) + 1))))) :: (h0, .inr (4, [.ref b0, .ref m0, .ref p0, .ref s0, .ref q0, .int (nI q), .int (nI sg), .int (nI rp), .int (nI lo), .int ea])) :: (b0, .inr (0, [.ref b1, .ref b2, .int (nI k)])) :: (b1, .inl (cI, 32, .inl T)) :: (b2, .inl (cI, 8, .inl (nA Lf))) :: (m0, .inr (1, [.ref m1, .int (nI n)])) :: (m1, .inl (cI, 24, .inl (nA t))) :: (p0, .inr (2, [.ref p1, .ref p2, .ref p3, .ref p4, .int (nI cnt)])) :: (p1, .inl (cI, 25, .inl (nA f))) :: (p2, .inl (cI, 24, .inl (nA lf))) :: (p3, .inl (cI, 24, .inl C)) :: (p4, .inl (cI, 24, .inl (nA ps))) :: (q0, .inr (3, [.int (nI se), .int (nI gf), .int (nI ak), .int (nI gn)])) :: (y0, .inr (5, [.ref yk, .ref ym, .int (nI q), .int (nI sg), .int (nI rp), .int (nI lo), .int ea])) :: (ym, .inl (cI, n, .inl (nA t))) :: (yk, .inl (zQ D, k, .inr (.inr (.inr (.inr (zrf R)))))) :: rwW cI R Lf T k) H → va_S A sv.heap H locs → lv_has ls 19 [(15, .int (nI pp)), (14, .int (nI (Lf j))), (13, .int (C (ps g))), (12, .int (nI g)), (11, .ref us), (10, .int (nI 0)), (9, .int (nI (sN (ctW C ps t) g))), (8, .int (nI (posN lf g))), (7, .int (nI cnt)), (6, .int (nI k)), (5, .int (nI n)), (4, .int x), (3, .int (nI tm)), (2, .ref y0), (1, .ref h0), (0, .ref b)] → W pg l ev rm_L_law sv mi ag bl mt cd H locs (cells + 1) (slots + 8) Q (F0 mi 213 ls []) := by
                      intro Nf
                      induction Nf with
                      | zero =>
                        intro pp hpp hN
                        exact absurd hN (Nat.not_lt_zero _)
                      | succ Nf ih_213 =>
                        intro pp hpp hN H locs ls hP hS hl
                        refine lv_iload hx hb dL_law_213 (lv_at hl 0 rfl) ?_
                        refine lv_iload hx hb dL_law_215 (lv_at hl 1 rfl) ?_
                        refine z_icmp_ge (tgt := 250) hx hb dL_law_217 (by decide) (by omega) (by omega) (fun c_217 => ?_) (fun c_217 => ?_)
                        · refine lv_iload hx hb dL_law_250 (lv_at hl 6 rfl) ?_
                          refine lv_iload hx hb dL_law_252 (lv_at hl 2 rfl) ?_
                          refine lv_if_ge (tgt := 272) hx hb dL_law_254 (by decide) (fun c_254 => ?_) (fun c_254 => ?_)
                          · refine lv_iconst (v := nI 1) hx hb dL_law_272 ci_1 ?_
                            refine z_iadd hx hb dL_law_273 ?_
                            refine z_top (y := nI (sN (ctW C ps t) (g + 1))) (congrArg nI (ctW_s hpart hk hL c_130 (by first | exact Or.inr ⟨by rw [hgp2.1]; omega, rfl⟩ | exact Or.inl ⟨by rw [hgp2.1]; exact hl1, (if_neg (by omega)).symm⟩ | exact Or.inl ⟨by rw [hgp2.1]; exact hl1, (if_pos (by omega)).symm⟩))) ?_
                            refine lv_istore (lv' := [(9, .int (nI (sN (ctW C ps t) (g + 1)))), (15, .int (nI pp)), (14, .int (nI (Lf j))), (13, .int (C (ps g))), (12, .int (nI g)), (11, .ref us), (10, .int (nI 0)), (8, .int (nI (posN lf g))), (7, .int (nI cnt)), (6, .int (nI k)), (5, .int (nI n)), (4, .int x), (3, .int (nI tm)), (2, .ref y0), (1, .ref h0), (0, .ref b)]) hx hb dL_law_274 hl (by decide) rfl (fun ls hl => ?_)
                            refine lv_iload hx hb dL_law_276 (lv_at hl 7 rfl) ?_
                            refine lv_iload hx hb dL_law_278 (lv_at hl 2 rfl) ?_
                            refine z_iadd hx hb dL_law_280 ?_
                            refine z_top (y := nI (posN lf (g + 1))) (congrArg nI (by show _ = posN lf g + lf (posN lf g); omega)) ?_
                            refine lv_istore (lv' := [(8, .int (nI (posN lf (g + 1)))), (9, .int (nI (sN (ctW C ps t) (g + 1)))), (15, .int (nI pp)), (14, .int (nI (Lf j))), (13, .int (C (ps g))), (12, .int (nI g)), (11, .ref us), (10, .int (nI 0)), (7, .int (nI cnt)), (6, .int (nI k)), (5, .int (nI n)), (4, .int x), (3, .int (nI tm)), (2, .ref y0), (1, .ref h0), (0, .ref b)]) hx hb dL_law_281 hl (by decide) rfl (fun ls hl => ?_)
                            refine lv_iinc (v := nI (g + 1)) (lv' := [(12, .int (nI (g + 1))), (8, .int (nI (posN lf (g + 1)))), (9, .int (nI (sN (ctW C ps t) (g + 1)))), (15, .int (nI pp)), (14, .int (nI (Lf j))), (13, .int (C (ps g))), (11, .ref us), (10, .int (nI 0)), (7, .int (nI cnt)), (6, .int (nI k)), (5, .int (nI n)), (4, .int x), (3, .int (nI tm)), (2, .ref y0), (1, .ref h0), (0, .ref b)]) hx hb dL_law_283 hl (k := 5) rfl (z_inc1 _) (by decide) rfl (fun ls hl => ?_)
                            refine lv_goto (tgt := 126) hx hb dL_law_286 (by decide) ?_
                            exact ih_126 (g + 1) (updN us9 j ((us9 j) + 1)) (by omega) (by first | exact us_t hk hu (i32_n c_169) | exact us_f hk hu hj hjC) (by omega) H locs ls hP hS (lv_sub hl [0, 6, 7, 2, 1, 8, 9, 10, 11, 12, 13, 14, 15] rfl)
                          · exact absurd c_169 c_254
                        · refine lv_aload_n hx hb dL_law_220 rfl (lv_at hl 14 rfl) ?_
                          refine lv_iload hx hb dL_law_221 (lv_at hl 7 rfl) ?_
                          refine lv_iload hx hb dL_law_223 (lv_at hl 0 rfl) ?_
                          refine z_iadd hx hb dL_law_225 ?_
                          have htpp := ht (posN lf g + pp) (by omega)
                          refine z_roV (w0 := [(h0, .inr (4, [.ref b0, .ref m0, .ref p0, .ref s0, .ref q0, .int (nI q), .int (nI sg), .int (nI rp), .int (nI lo), .int ea])), (m0, .inr (1, [.ref m1, .int (nI n)])), (m1, .inl (cI, 24, .inl (nA t)))]) (As := [.int (nI ((posN lf g) + pp))]) (rest := []) ⟨hx, hb, hml, hown, hts⟩ (c_X4_typeOf l D cI h0 b0 m0 p0 s0 q0 q sg (nI rp) (nI lo) ea m1 t n ((posN lf g) + pp) (by first | assumption | omega) (by first | assumption | omega)) (cwV 1 hts gL_law_X4_typeOf rfl rfl rfl hd_X4_typeOf ⟨Nat.le_of_ble_eq_true rfl, Nat.le_of_ble_eq_true rfl⟩) ⟨hK, hE⟩ (fr_cons (hP 1 _ rfl) (fr_cons (hP 5 _ rfl) (fr_cons (hP 6 _ rfl) (va_P_nil _ _ _)))) (va_recv hK hP (ci := 4) (q0 := 1) rfl rfl) rfl hl.1 rfl (Nat.le_of_ble_eq_true rfl) dL_law_226 (by show _ ≤ 769499; omega) (by show _ ≤ 6793128; omega) ?_
                          refine lv_aload_n hx hb dL_law_229 rfl (lv_at hl 13 rfl) ?_
                          refine va_get (v := .ref yk) hx hb hts inlX5 hown hK hP 13 rfl rfl 0 (by decide) f_21 (fun _ h => h) rfl dL_law_230 ?_
                          refine lv_iload hx hb dL_law_233 (lv_at hl 2 rfl) ?_
                          refine z_top (y := nI j) hjC ?_
                          refine zq_ald (r := R j) hx hb hK hE hP 15 rfl (by omega) (by omega) rfl dL_law_235 ?_
                          refine lv_iload hx hb dL_law_236 (lv_at hl 0 rfl) ?_
                          refine z_iald hx hb hK (rw_get 16 hP rfl (by omega)) 0 0 rfl rfl (by omega) (by omega) dL_law_238 ?_
                          refine lv_icmp_eq (tgt := 244) hx hb dL_law_239 (by decide) (fun c_239 => ?_) (fun c_239 => ?_)
                          · refine lv_iinc (v := nI (pp + 1)) (lv' := [(15, .int (nI (pp + 1))), (14, .int (nI (Lf j))), (13, .int (C (ps g))), (12, .int (nI g)), (11, .ref us), (10, .int (nI 0)), (9, .int (nI (sN (ctW C ps t) g))), (8, .int (nI (posN lf g))), (7, .int (nI cnt)), (6, .int (nI k)), (5, .int (nI n)), (4, .int x), (3, .int (nI tm)), (2, .ref y0), (1, .ref h0), (0, .ref b)]) hx hb dL_law_244 hl (k := 0) rfl (z_inc1 _) (by decide) rfl (fun ls hl => ?_)
                            refine lv_goto (tgt := 213) hx hb dL_law_247 (by decide) ?_
                            exact ih_213 (pp + 1) (by omega) (by omega) H locs ls hP hS (lv_sub hl [0, 1, 2, 3, 4, 5, 6, 7, 8, 9, 10, 11, 12, 13, 14, 15] rfl)
                          · exact absurd (hjm pp (by omega)) c_239
                    exact lp_213 ((Lf j - 0) + 1) 0 (Nat.zero_le _) (Nat.lt_succ_self _) H locs ls hP hS hl
                  · exact absurd c_205 (by omega)
              · obtain ⟨-, hC1, hl1⟩ := (C_k hpart hk hL c_130).resolve_right (fun ⟨j, hj, h9, _⟩ => c_169 (by rw [h9]; exact nI_pos' (by omega)))
                rw [hgp2.1] at hl1
                refine lv_iconst (v := nI 1) hx hb dL_law_172 ci_1 ?_
                refine lv_goto (tgt := 182) hx hb dL_law_173 (by decide) ?_
                refine lv_istore (lv' := [(14, .int (nI 1)), (13, .int (C (ps g))), (12, .int (nI g)), (11, .ref us), (10, .int (nI 0)), (9, .int (nI (sN (ctW C ps t) g))), (8, .int (nI (posN lf g))), (7, .int (nI cnt)), (6, .int (nI k)), (5, .int (nI n)), (4, .int x), (3, .int (nI tm)), (2, .ref y0), (1, .ref h0), (0, .ref b)]) hx hb dL_law_182 hl (by decide) rfl (fun ls hl => ?_)
                refine lv_iload hx hb dL_law_184 (lv_at hl 1 rfl) ?_
                refine lv_if_lt (tgt := 250) hx hb dL_law_186 (by decide) (fun c_186 => ?_) (fun c_186 => ?_)
                · refine lv_iload hx hb dL_law_250 (lv_at hl 5 rfl) ?_
                  refine lv_iload hx hb dL_law_252 (lv_at hl 1 rfl) ?_
                  refine lv_if_ge (tgt := 272) hx hb dL_law_254 (by decide) (fun c_254 => ?_) (fun c_254 => ?_)
                  · exact absurd c_254 c_169
                  · refine lv_aload_n hx hb dL_law_257 rfl (lv_at hl 13 rfl) ?_
                    refine lv_iload hx hb dL_law_258 (lv_at hl 6 rfl) ?_
                    refine z_roV (w0 := [(h0, .inr (4, [.ref b0, .ref m0, .ref p0, .ref s0, .ref q0, .int (nI q), .int (nI sg), .int (nI rp), .int (nI lo), .int ea])), (m0, .inr (1, [.ref m1, .int (nI n)])), (m1, .inl (cI, 24, .inl (nA t)))]) (As := [.int (nI (posN lf g))]) (rest := [.int (nI (sN (ctW C ps t) g))]) ⟨hx, hb, hml, hown, hts⟩ (c_X4_typeOf l D cI h0 b0 m0 p0 s0 q0 q sg (nI rp) (nI lo) ea m1 t n (posN lf g) (by first | assumption | omega) (by first | assumption | omega)) (cwV 1 hts gL_law_X4_typeOf rfl rfl rfl hd_X4_typeOf ⟨Nat.le_of_ble_eq_true rfl, Nat.le_of_ble_eq_true rfl⟩) ⟨hK, hE⟩ (fr_cons (hP 1 _ rfl) (fr_cons (hP 5 _ rfl) (fr_cons (hP 6 _ rfl) (va_P_nil _ _ _)))) (va_recv hK hP (ci := 4) (q0 := 1) rfl rfl) rfl hl.1 rfl (Nat.le_of_ble_eq_true rfl) dL_law_260 (by show _ ≤ 769499; omega) (by show _ ≤ 6793128; omega) ?_
                    refine z_bipush (n := 8) hx hb rfl (by decide) dL_law_263 ?_
                    refine z_icmp_lt (tgt := 272) hx hb dL_law_265 (by decide) (by omega) (by omega) (fun c_265 => ?_) (fun c_265 => ?_)
                    · refine lv_iconst (v := nI 1) hx hb dL_law_272 ci_1 ?_
                      refine z_iadd hx hb dL_law_273 ?_
                      refine z_top (y := nI (sN (ctW C ps t) (g + 1))) (congrArg nI (ctW_s hpart hk hL c_130 (by first | exact Or.inr ⟨by rw [hgp2.1]; omega, rfl⟩ | exact Or.inl ⟨by rw [hgp2.1]; exact hl1, (if_neg (by omega)).symm⟩ | exact Or.inl ⟨by rw [hgp2.1]; exact hl1, (if_pos (by omega)).symm⟩))) ?_
                      refine lv_istore (lv' := [(9, .int (nI (sN (ctW C ps t) (g + 1)))), (14, .int (nI 1)), (13, .int (C (ps g))), (12, .int (nI g)), (11, .ref us), (10, .int (nI 0)), (8, .int (nI (posN lf g))), (7, .int (nI cnt)), (6, .int (nI k)), (5, .int (nI n)), (4, .int x), (3, .int (nI tm)), (2, .ref y0), (1, .ref h0), (0, .ref b)]) hx hb dL_law_274 hl (by decide) rfl (fun ls hl => ?_)
                      refine lv_iload hx hb dL_law_276 (lv_at hl 6 rfl) ?_
                      refine lv_iload hx hb dL_law_278 (lv_at hl 1 rfl) ?_
                      refine z_iadd hx hb dL_law_280 ?_
                      refine z_top (y := nI (posN lf (g + 1))) (congrArg nI (by show _ = posN lf g + lf (posN lf g); omega)) ?_
                      refine lv_istore (lv' := [(8, .int (nI (posN lf (g + 1)))), (9, .int (nI (sN (ctW C ps t) (g + 1)))), (14, .int (nI 1)), (13, .int (C (ps g))), (12, .int (nI g)), (11, .ref us), (10, .int (nI 0)), (7, .int (nI cnt)), (6, .int (nI k)), (5, .int (nI n)), (4, .int x), (3, .int (nI tm)), (2, .ref y0), (1, .ref h0), (0, .ref b)]) hx hb dL_law_281 hl (by decide) rfl (fun ls hl => ?_)
                      refine lv_iinc (v := nI (g + 1)) (lv' := [(12, .int (nI (g + 1))), (8, .int (nI (posN lf (g + 1)))), (9, .int (nI (sN (ctW C ps t) (g + 1)))), (14, .int (nI 1)), (13, .int (C (ps g))), (11, .ref us), (10, .int (nI 0)), (7, .int (nI cnt)), (6, .int (nI k)), (5, .int (nI n)), (4, .int x), (3, .int (nI tm)), (2, .ref y0), (1, .ref h0), (0, .ref b)]) hx hb dL_law_283 hl (k := 4) rfl (z_inc1 _) (by decide) rfl (fun ls hl => ?_)
                      refine lv_goto (tgt := 126) hx hb dL_law_286 (by decide) ?_
                      exact ih_126 (g + 1) us9 (by omega) (by first | exact us_t hk hu (i32_n c_169) | exact us_f hk hu hj hjC) (by omega) H locs ls hP hS (lv_sub hl [0, 5, 6, 2, 1, 7, 8, 9, 10, 11, 12, 13, 14] rfl)
                    · refine lv_iconst (v := nI 2) hx hb dL_law_268 ci_2 ?_
                      refine lv_goto (tgt := 273) hx hb dL_law_269 (by decide) ?_
                      refine z_iadd hx hb dL_law_273 ?_
                      refine z_top (y := nI (sN (ctW C ps t) (g + 1))) (congrArg nI (ctW_s hpart hk hL c_130 (by first | exact Or.inr ⟨by rw [hgp2.1]; omega, rfl⟩ | exact Or.inl ⟨by rw [hgp2.1]; exact hl1, (if_neg (by omega)).symm⟩ | exact Or.inl ⟨by rw [hgp2.1]; exact hl1, (if_pos (by omega)).symm⟩))) ?_
                      refine lv_istore (lv' := [(9, .int (nI (sN (ctW C ps t) (g + 1)))), (14, .int (nI 1)), (13, .int (C (ps g))), (12, .int (nI g)), (11, .ref us), (10, .int (nI 0)), (8, .int (nI (posN lf g))), (7, .int (nI cnt)), (6, .int (nI k)), (5, .int (nI n)), (4, .int x), (3, .int (nI tm)), (2, .ref y0), (1, .ref h0), (0, .ref b)]) hx hb dL_law_274 hl (by decide) rfl (fun ls hl => ?_)
                      refine lv_iload hx hb dL_law_276 (lv_at hl 6 rfl) ?_
                      refine lv_iload hx hb dL_law_278 (lv_at hl 1 rfl) ?_
                      refine z_iadd hx hb dL_law_280 ?_
                      refine z_top (y := nI (posN lf (g + 1))) (congrArg nI (by show _ = posN lf g + lf (posN lf g); omega)) ?_
                      refine lv_istore (lv' := [(8, .int (nI (posN lf (g + 1)))), (9, .int (nI (sN (ctW C ps t) (g + 1)))), (14, .int (nI 1)), (13, .int (C (ps g))), (12, .int (nI g)), (11, .ref us), (10, .int (nI 0)), (7, .int (nI cnt)), (6, .int (nI k)), (5, .int (nI n)), (4, .int x), (3, .int (nI tm)), (2, .ref y0), (1, .ref h0), (0, .ref b)]) hx hb dL_law_281 hl (by decide) rfl (fun ls hl => ?_)
                      refine lv_iinc (v := nI (g + 1)) (lv' := [(12, .int (nI (g + 1))), (8, .int (nI (posN lf (g + 1)))), (9, .int (nI (sN (ctW C ps t) (g + 1)))), (14, .int (nI 1)), (13, .int (C (ps g))), (11, .ref us), (10, .int (nI 0)), (7, .int (nI cnt)), (6, .int (nI k)), (5, .int (nI n)), (4, .int x), (3, .int (nI tm)), (2, .ref y0), (1, .ref h0), (0, .ref b)]) hx hb dL_law_283 hl (k := 4) rfl (z_inc1 _) (by decide) rfl (fun ls hl => ?_)
                      refine lv_goto (tgt := 126) hx hb dL_law_286 (by decide) ?_
                      exact ih_126 (g + 1) us9 (by omega) (by first | exact us_t hk hu (i32_n c_169) | exact us_f hk hu hj hjC) (by omega) H locs ls hP hS (lv_sub hl [0, 5, 6, 2, 1, 7, 8, 9, 10, 11, 12, 13, 14] rfl)
                · exact absurd (i32_n c_169) c_186
            · exact absurd hrng.2 c_162
  exact lp_126 ((cnt - 0) + 1) 0 (fun _ => 0) (Nat.zero_le _) (fun _ _ => rfl) (Nat.lt_succ_self _) H locs ls hP hS hl
