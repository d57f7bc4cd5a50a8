theorem hd_X5_isSame : yX5_isSame.cls = RX5 ∧ yX5_isSame.cls ≠ "java/lang/invoke/MethodHandle" ∧ yX5_isSame.cls ≠ "java/lang/invoke/VarHandle" ∧ (parseMethodDescriptor yX5_isSame.desc).map (fun d => d.parameters.length) = some 1 := by decide +kernel
abbrev rm_X5_isSame : Room := { frames := 6, cells := 17, slots := 268, locals := 127 }
set_option maxHeartbeats 4000000 in
set_option maxRecDepth 100000 in
theorem c_X5_isSame (l : Launch) (D : va_G) (cI : ClassId) (h0 : Nat) (b0 : Nat) (m0 : Nat) (p0 : Nat) (s0 : Nat) (q0 : Nat) (b1 : Nat) (b2 : Nat) (m1 : Nat) (p1 : Nat) (p2 : Nat) (p3 : Nat) (p4 : Nat) (y0 : Nat) (yk : Nat) (ym : Nat) (k : Nat) (n : Nat) (q : Nat) (sg : Nat) (rp : Nat) (lo : Nat) (cnt : Nat) (se : Nat) (gf : Nat) (ak : Nat) (gn : Nat) (Lf : Nat → Nat) (t : Nat → Nat) (f : Nat → Nat) (lf : Nat → Nat) (ps : Nat → Nat) (R : Nat → Nat) (T : Nat → Int32) (C : Nat → Int32) (ea : Int32) (bd : Nat) (hSI : SI bd k n q sg rp lo cnt T Lf t f lf C ps) (hbd : bd ≤ 50000) (sz : Nat) : FR l yX5_isSame wsX5_isSame rm_X5_isSame D cI ((h0, .inr (4, [.ref b0, .ref m0, .ref p0, .ref s0, .ref q0, .int (nI q), .int (nI sg), .int (nI rp), .int (nI lo), .int ea])) :: (b0, .inr (0, [.ref b1, .ref b2, .int (nI k)])) :: (b1, .inl (cI, 32, .inl T)) :: (b2, .inl (cI, 8, .inl (nA Lf))) :: (m0, .inr (1, [.ref m1, .int (nI n)])) :: (m1, .inl (cI, 24, .inl (nA t))) :: (p0, .inr (2, [.ref p1, .ref p2, .ref p3, .ref p4, .int (nI cnt)])) :: (p1, .inl (cI, 25, .inl (nA f))) :: (p2, .inl (cI, 24, .inl (nA lf))) :: (p3, .inl (cI, 24, .inl C)) :: (p4, .inl (cI, 24, .inl (nA ps))) :: (q0, .inr (3, [.int (nI se), .int (nI gf), .int (nI ak), .int (nI gn)])) :: (y0, .inr (5, [.ref yk, .ref ym, .int (nI q), .int (nI sg), .int (nI rp), .int (nI lo), .int ea])) :: (ym, .inl (cI, n, .inl (nA t))) :: (yk, .inl (zQ D, k, .inr (.inr (.inr (.inr (zrf R)))))) :: rwW cI R Lf T k) [.ref y0, .ref h0] sz (fun (v9 : Option Value) (u9 : Unit) => v9 = some (.int (z1 True))) (fun (u9 : Unit) => []) 17 268 := by
  refine fr_of (C := RX5) (cc := cX5_isSame) (maxL := 9) (ret := (some .boolean)) rfl (by decide) rfl (Nat.le_of_ble_eq_true rfl) ?_
  intro pg ev sv mi ag bl mt cd ls Q A hA hA2 hQ hx hb hr hlocks hml hts hown _ hK hE hP0 hD0 H locs hP hS hl
  have hP0 : va_P D vwCl ((h0, .inr (4, [.ref b0, .ref m0, .ref p0, .ref s0, .ref q0, .int (nI q), .int (nI sg), .int (nI rp), .int (nI lo), .int ea])) :: (b0, .inr (0, [.ref b1, .ref b2, .int (nI k)])) :: (b1, .inl (cI, 32, .inl T)) :: (b2, .inl (cI, 8, .inl (nA Lf))) :: (m0, .inr (1, [.ref m1, .int (nI n)])) :: (m1, .inl (cI, 24, .inl (nA t))) :: (p0, .inr (2, [.ref p1, .ref p2, .ref p3, .ref p4, .int (nI cnt)])) :: (p1, .inl (cI, 25, .inl (nA f))) :: (p2, .inl (cI, 24, .inl (nA lf))) :: (p3, .inl (cI, 24, .inl C)) :: (p4, .inl (cI, 24, .inl (nA ps))) :: (q0, .inr (3, [.int (nI se), .int (nI gf), .int (nI ak), .int (nI gn)])) :: (y0, .inr (5, [.ref yk, .ref ym, .int (nI q), .int (nI sg), .int (nI rp), .int (nI lo), .int ea])) :: (ym, .inl (cI, n, .inl (nA t))) :: (yk, .inl (zQ D, k, .inr (.inr (.inr (.inr (zrf R)))))) :: rwW cI R Lf T k) sv.heap := hP0
  have hD : zDD A [] := zDD.of hD0
  have hP : va_P D vwCl [] H := hP
  have hl : lv_has ls 9 [(0, .ref y0), (1, .ref h0)] := hl
  have f_9 := hts (.fieldLink RX5 9 "TelegraphDeskLaw$Sim" "codes" "[[I") (by decide +kernel)
  have f_15 := hts (.fieldLink RX5 15 "TelegraphDeskLaw$Sim" "message" "[I") (by decide +kernel)
  have f_34 := hts (.fieldLink RX5 34 "TelegraphDeskLaw$Sim" "sent" "I") (by decide +kernel)
  have f_68 := hts (.fieldLink RX5 68 "TelegraphDeskLaw$Sim" "repeats" "I") (by decide +kernel)
  have f_73 := hts (.fieldLink RX5 73 "TelegraphDeskLaw$Sim" "lost" "I") (by decide +kernel)
  have f_78 := hts (.fieldLink RX5 78 "TelegraphDeskLaw$Sim" "earned" "I") (by decide +kernel)
  have hi_5 : ∀ w ∈ wsX50, w ∈ wsX5_isSame := by decide +kernel
  obtain ⟨hn, hk, hL, ht, hBK, hpart, hq1, hsg0, hlo, hrp⟩ := id hSI
  have hcnt : cnt ≤ 24 := Nat.le_trans hpart.2.2.2 hn
  have hst : ∀ g, g < cnt → ps g < n := fun g hg => by have h9 := hpart.2.1 g hg; rw [h9.1]; exact h9.2
  have hq : q ≤ 9 := hq1.2
  have hsg : sg ≤ 60000 := by omega
  have hcnn := hpart.2.2.2
  have hnd := hBK.2
  have hcl := sN_le (f := ctW C ps t) (b := 2) cnt (fun j _ => ctW_le C ps t j)
  have hcl2 := sN_le (f := fun j => wc (t j)) (b := 2) n (fun j _ => wc_le _)
  have hcc1 : costN n (sN (ctW C ps t) cnt) ≤ 1000 := by unfold costN; split <;> omega
  refine lv_aload_n hx hb dX5_isSame_0 rfl (lv_at hl 0 rfl) ?_
  refine va_get (v := .ref yk) hx hb hts hi_5 hown hK (fr_old hP0 hS hA2) 12 rfl rfl 0 (by decide) f_9 (fun _ h => h) rfl dX5_isSame_1 ?_
  refine lv_aload_n hx hb dX5_isSame_4 rfl (lv_at hl 0 rfl) ?_
  refine va_get (v := .ref ym) hx hb hts hi_5 hown hK (fr_old hP0 hS hA2) 12 rfl rfl 1 (by decide) f_15 (fun _ h => h) rfl dX5_isSame_5 ?_
  refine z_frS (w0 := ((yk, .inl (zQ D, k, .inr (.inr (.inr (.inr (zrf R)))))) :: (ym, .inl (cI, n, .inl (nA t))) :: rwW cI R Lf T k)) (As := [.ref yk, .ref ym]) (rest := []) ⟨hx, hb, hml, hown, hts⟩ (c_X5_parted l D cI yk ym R T Lf k t n f lf C ps cnt (by first | assumption | omega) (by first | assumption | omega) (by first | assumption | omega) (by first | assumption | omega) _) (va_cwS 2 hts gX5_isSame_X5_parted rfl rfl rfl hd_X5_parted ⟨Nat.le_of_ble_eq_true rfl, Nat.le_of_ble_eq_true rfl⟩) ⟨hK, hE⟩ (fr_cons ((fr_old hP0 hS hA2) 14 _ rfl) (fr_cons ((fr_old hP0 hS hA2) 13 _ rfl) ((fr_drop 15 (fr_old hP0 hS hA2) rfl)))) hP (hD.to rfl) hS hA rfl hl.1 rfl (Nat.le_of_ble_eq_true rfl) dX5_isSame_8 (Nat.le_of_ble_eq_true rfl) (Nat.le_of_ble_eq_true rfl) (fun v9 u9 H locs hp hP hD hS => ?_)
  obtain ⟨z_8, le_8, ma_8⟩ := u9
  obtain rfl := hp
  have hP : va_P D vwCl [(z_8, .inl (zQ D, 2, .inr (.inr (.inr (.inr (zq2 ma_8 le_8)))))), (le_8, .inl (cI, n + 1, .inl (nA (lfz lf n)))), (ma_8, .inl (cI, n + 1, .inl (nA f)))] H := hP
  have hD : zDD A ([z_8, le_8, ma_8]) := zDD.of hD
  refine W.eq (g2 := F0 mi 11 ls [.ref z_8]) rfl ?_
  refine lv_astore_n (lv' := [(2, .ref z_8), (0, .ref y0), (1, .ref h0)]) hx hb dX5_isSame_11 rfl hl (by decide) rfl (fun ls hl => ?_)
  refine lv_aload_n hx hb dX5_isSame_12 rfl (lv_at hl 0 rfl) ?_
  refine lv_iconst (v := nI 0) hx hb dX5_isSame_13 ci_0 ?_
  refine zq_ald (r := ma_8) hx hb hK hE hP 0 rfl (by omega) (by omega) rfl dX5_isSame_14 ?_
  refine lv_iconst (v := nI 0) hx hb dX5_isSame_15 ci_0 ?_
  refine z_ialdN hx hb hK hP 2 0 rfl rfl (by omega) (by omega) dX5_isSame_16 ?_
  refine z_top (y := nI cnt) (congrArg nI (cnt_f hpart)) ?_
  refine lv_istore_n (lv' := [(3, .int (nI cnt)), (2, .ref z_8), (0, .ref y0), (1, .ref h0)]) hx hb dX5_isSame_17 rfl hl (by decide) rfl (fun ls hl => ?_)
  refine lv_aload_n hx hb dX5_isSame_18 rfl (lv_at hl 3 rfl) ?_
  refine z_roV (w0 := [(h0, .inr (4, [.ref b0, .ref m0, .ref p0, .ref s0, .ref q0, .int (nI q), .int (nI sg), .int (nI rp), .int (nI lo), .int ea])), (b0, .inr (0, [.ref b1, .ref b2, .int (nI k)]))]) (As := []) (rest := []) ⟨hx, hb, hml, hown, hts⟩ (c_X4_codes l D cI h0 b0 m0 p0 s0 q0 q sg (nI rp) (nI lo) ea b1 b2 k) (cwV 0 hts gX5_isSame_X4_codes rfl rfl rfl hd_X4_codes ⟨Nat.le_of_ble_eq_true rfl, Nat.le_of_ble_eq_true rfl⟩) ⟨hK, hE⟩ (fr_cons ((fr_old hP0 hS hA2) 0 _ rfl) (fr_cons ((fr_old hP0 hS hA2) 1 _ rfl) (va_P_nil _ _ _))) (va_recv hK (fr_old hP0 hS hA2) (ci := 4) (q0 := 0) rfl rfl) rfl hl.1 rfl (Nat.le_of_ble_eq_true rfl) dX5_isSame_19 (Nat.le_of_ble_eq_true rfl) (Nat.le_of_ble_eq_true rfl) ?_
  refine lv_aload_n hx hb dX5_isSame_22 rfl (lv_at hl 2 rfl) ?_
  refine va_get (v := .ref yk) hx hb hts hi_5 hown hK (fr_old hP0 hS hA2) 12 rfl rfl 0 (by decide) f_9 (fun _ h => h) rfl dX5_isSame_23 ?_
  refine zq_len hx hb hK hE (fr_old hP0 hS hA2) 14 rfl dX5_isSame_26 ?_
  refine z_icmp_ne (tgt := 148) hx hb dX5_isSame_27 (by decide) (by omega) (by omega) (fun c_27 => ?_) (fun c_27 => ?_)
  · exact absurd rfl c_27
  · refine lv_aload_n hx hb dX5_isSame_30 rfl (lv_at hl 3 rfl) ?_
    refine z_roV (w0 := [(h0, .inr (4, [.ref b0, .ref m0, .ref p0, .ref s0, .ref q0, .int (nI q), .int (nI sg), .int (nI rp), .int (nI lo), .int ea])), (m0, .inr (1, [.ref m1, .int (nI n)]))]) (As := []) (rest := []) ⟨hx, hb, hml, hown, hts⟩ (c_X4_words l D cI h0 b0 m0 p0 s0 q0 q sg (nI rp) (nI lo) ea m1 n) (cwV 0 hts gX5_isSame_X4_words rfl rfl rfl hd_X4_words ⟨Nat.le_of_ble_eq_true rfl, Nat.le_of_ble_eq_true rfl⟩) ⟨hK, hE⟩ (fr_cons ((fr_old hP0 hS hA2) 0 _ rfl) (fr_cons ((fr_old hP0 hS hA2) 4 _ rfl) (va_P_nil _ _ _))) (va_recv hK (fr_old hP0 hS hA2) (ci := 4) (q0 := 0) rfl rfl) rfl hl.1 rfl (Nat.le_of_ble_eq_true rfl) dX5_isSame_31 (Nat.le_of_ble_eq_true rfl) (Nat.le_of_ble_eq_true rfl) ?_
    refine lv_aload_n hx hb dX5_isSame_34 rfl (lv_at hl 2 rfl) ?_
    refine va_get (v := .ref ym) hx hb hts hi_5 hown hK (fr_old hP0 hS hA2) 12 rfl rfl 1 (by decide) f_15 (fun _ h => h) rfl dX5_isSame_35 ?_
    refine va_alen (v := nI n) hx hb hK (fr_old hP0 hS hA2) 13 0 rfl rfl rfl dX5_isSame_38 ?_
    refine z_icmp_ne (tgt := 148) hx hb dX5_isSame_39 (by decide) (by omega) (by omega) (fun c_39 => ?_) (fun c_39 => ?_)
    · exact absurd rfl c_39
    · refine lv_aload_n hx hb dX5_isSame_42 rfl (lv_at hl 3 rfl) ?_
      refine z_roV (w0 := [(h0, .inr (4, [.ref b0, .ref m0, .ref p0, .ref s0, .ref q0, .int (nI q), .int (nI sg), .int (nI rp), .int (nI lo), .int ea])), (p0, .inr (2, [.ref p1, .ref p2, .ref p3, .ref p4, .int (nI cnt)]))]) (As := []) (rest := []) ⟨hx, hb, hml, hown, hts⟩ (c_X4_groups l D cI h0 b0 m0 p0 s0 q0 q sg (nI rp) (nI lo) ea p1 p2 p3 p4 cnt) (cwV 0 hts gX5_isSame_X4_groups rfl rfl rfl hd_X4_groups ⟨Nat.le_of_ble_eq_true rfl, Nat.le_of_ble_eq_true rfl⟩) ⟨hK, hE⟩ (fr_cons ((fr_old hP0 hS hA2) 0 _ rfl) (fr_cons ((fr_old hP0 hS hA2) 6 _ rfl) (va_P_nil _ _ _))) (va_recv hK (fr_old hP0 hS hA2) (ci := 4) (q0 := 0) rfl rfl) rfl hl.1 rfl (Nat.le_of_ble_eq_true rfl) dX5_isSame_43 (Nat.le_of_ble_eq_true rfl) (Nat.le_of_ble_eq_true rfl) ?_
      refine lv_iload_n hx hb dX5_isSame_46 rfl (lv_at hl 0 rfl) ?_
      refine z_icmp_ne (tgt := 148) hx hb dX5_isSame_47 (by decide) (by omega) (by omega) (fun c_47 => ?_) (fun c_47 => ?_)
      · exact absurd rfl c_47
      · refine lv_aload_n hx hb dX5_isSame_50 rfl (lv_at hl 3 rfl) ?_
        refine z_roV (w0 := [(h0, .inr (4, [.ref b0, .ref m0, .ref p0, .ref s0, .ref q0, .int (nI q), .int (nI sg), .int (nI rp), .int (nI lo), .int ea])), (p0, .inr (2, [.ref p1, .ref p2, .ref p3, .ref p4, .int (nI cnt)])), (p1, .inl (cI, 25, .inl (nA f))), (p2, .inl (cI, 24, .inl (nA lf))), (p3, .inl (cI, 24, .inl C)), (p4, .inl (cI, 24, .inl (nA ps))), (m0, .inr (1, [.ref m1, .int (nI n)])), (m1, .inl (cI, 24, .inl (nA t)))]) (As := []) (rest := []) ⟨hx, hb, hml, hown, hts⟩ (c_X4_counted l D cI h0 b0 m0 p0 s0 q0 q sg (nI rp) (nI lo) ea p1 p2 p3 p4 f lf C ps cnt m1 t n (by first | assumption | omega) (by first | assumption | omega) (by first | assumption | omega) (by first | assumption | omega)) (cwV 0 hts gX5_isSame_X4_counted rfl rfl rfl hd_X4_counted ⟨Nat.le_of_ble_eq_true rfl, Nat.le_of_ble_eq_true rfl⟩) ⟨hK, hE⟩ (fr_cons ((fr_old hP0 hS hA2) 0 _ rfl) (fr_cons ((fr_old hP0 hS hA2) 6 _ rfl) (fr_cons ((fr_old hP0 hS hA2) 7 _ rfl) (fr_cons ((fr_old hP0 hS hA2) 8 _ rfl) (fr_cons ((fr_old hP0 hS hA2) 9 _ rfl) (fr_cons ((fr_old hP0 hS hA2) 10 _ rfl) (fr_cons ((fr_old hP0 hS hA2) 4 _ rfl) (fr_cons ((fr_old hP0 hS hA2) 5 _ rfl) (va_P_nil _ _ _))))))))) (va_recv hK (fr_old hP0 hS hA2) (ci := 4) (q0 := 0) rfl rfl) rfl hl.1 rfl (Nat.le_of_ble_eq_true rfl) dX5_isSame_51 (Nat.le_of_ble_eq_true rfl) (Nat.le_of_ble_eq_true rfl) ?_
        refine lv_aload_n hx hb dX5_isSame_54 rfl (lv_at hl 2 rfl) ?_
        refine lv_aload_n hx hb dX5_isSame_55 rfl (lv_at hl 2 rfl) ?_
        refine va_get (v := .ref yk) hx hb hts hi_5 hown hK (fr_old hP0 hS hA2) 12 rfl rfl 0 (by decide) f_9 (fun _ h => h) rfl dX5_isSame_56 ?_
        refine z_frV (w0 := ((y0, .inr (5, [.ref yk, .ref ym, .int (nI q), .int (nI sg), .int (nI rp), .int (nI lo), .int ea])) :: (ym, .inl (cI, n, .inl (nA t))) :: (yk, .inl (zQ D, k, .inr (.inr (.inr (.inr (zrf R)))))) :: rwW cI R Lf T k)) (As := [.ref yk]) (rest := [.int (nI (sN (ctW C ps t) cnt))]) ⟨hx, hb, hml, hown, hts⟩ (c_X5_counted l D cI y0 yk ym q sg rp lo ea R T Lf k t n f lf C ps cnt yk (by first | assumption | omega) (by first | assumption | omega) (by first | assumption | omega) (by first | assumption | omega) (by first | assumption | omega) _) (cwV 1 hts gX5_isSame_X5_counted rfl rfl rfl hd_X5_counted ⟨Nat.le_of_ble_eq_true rfl, Nat.le_of_ble_eq_true rfl⟩) ⟨hK, hE⟩ (fr_cons ((fr_old hP0 hS hA2) 12 _ rfl) (fr_cons ((fr_old hP0 hS hA2) 13 _ rfl) (fr_cons ((fr_old hP0 hS hA2) 14 _ rfl) ((fr_drop 15 (fr_old hP0 hS hA2) rfl))))) hP (hD.to rfl) hS hA (va_recv hK (fr_old hP0 hS hA2) (ci := 5) (q0 := 12) rfl rfl) rfl hl.1 rfl (Nat.le_of_ble_eq_true rfl) dX5_isSame_59 (Nat.le_of_ble_eq_true rfl) (Nat.le_of_ble_eq_true rfl) (fun v9 u9 H locs hp hP hD hS => ?_)
        obtain rfl := hp
        have hP : va_P D vwCl [(z_8, .inl (zQ D, 2, .inr (.inr (.inr (.inr (zq2 ma_8 le_8)))))), (le_8, .inl (cI, n + 1, .inl (nA (lfz lf n)))), (ma_8, .inl (cI, n + 1, .inl (nA f)))] H := hP
        have hD : zDD A ([z_8, le_8, ma_8]) := zDD.of hD
        refine W.eq (g2 := F0 mi 62 ls [.int (nI (sN (ctW C ps t) cnt)), .int (nI (sN (ctW C ps t) cnt))]) rfl ?_
        refine z_icmp_ne (tgt := 148) hx hb dX5_isSame_62 (by decide) (by omega) (by omega) (fun c_62 => ?_) (fun c_62 => ?_)
        · exact absurd rfl c_62
        · refine lv_aload_n hx hb dX5_isSame_65 rfl (lv_at hl 3 rfl) ?_
          refine z_roV (w0 := [(h0, .inr (4, [.ref b0, .ref m0, .ref p0, .ref s0, .ref q0, .int (nI q), .int (nI sg), .int (nI rp), .int (nI lo), .int ea])), (p0, .inr (2, [.ref p1, .ref p2, .ref p3, .ref p4, .int (nI cnt)])), (p1, .inl (cI, 25, .inl (nA f))), (p2, .inl (cI, 24, .inl (nA lf))), (p3, .inl (cI, 24, .inl C)), (p4, .inl (cI, 24, .inl (nA ps))), (m0, .inr (1, [.ref m1, .int (nI n)])), (m1, .inl (cI, 24, .inl (nA t)))]) (As := []) (rest := []) ⟨hx, hb, hml, hown, hts⟩ (c_X4_cost l D cI h0 b0 m0 p0 s0 q0 q sg (nI rp) (nI lo) ea p1 p2 p3 p4 f lf C ps cnt m1 t n (by first | assumption | omega) (by first | assumption | omega) (by first | assumption | omega) (by first | assumption | omega)) (cwV 0 hts gX5_isSame_X4_cost rfl rfl rfl hd_X4_cost ⟨Nat.le_of_ble_eq_true rfl, Nat.le_of_ble_eq_true rfl⟩) ⟨hK, hE⟩ (fr_cons ((fr_old hP0 hS hA2) 0 _ rfl) (fr_cons ((fr_old hP0 hS hA2) 6 _ rfl) (fr_cons ((fr_old hP0 hS hA2) 7 _ rfl) (fr_cons ((fr_old hP0 hS hA2) 8 _ rfl) (fr_cons ((fr_old hP0 hS hA2) 9 _ rfl) (fr_cons ((fr_old hP0 hS hA2) 10 _ rfl) (fr_cons ((fr_old hP0 hS hA2) 4 _ rfl) (fr_cons ((fr_old hP0 hS hA2) 5 _ rfl) (va_P_nil _ _ _))))))))) (va_recv hK (fr_old hP0 hS hA2) (ci := 4) (q0 := 0) rfl rfl) rfl hl.1 rfl (Nat.le_of_ble_eq_true rfl) dX5_isSame_66 (Nat.le_of_ble_eq_true rfl) (Nat.le_of_ble_eq_true rfl) ?_
          refine lv_aload_n hx hb dX5_isSame_69 rfl (lv_at hl 2 rfl) ?_
          refine lv_aload_n hx hb dX5_isSame_70 rfl (lv_at hl 2 rfl) ?_
          refine va_get (v := .ref yk) hx hb hts hi_5 hown hK (fr_old hP0 hS hA2) 12 rfl rfl 0 (by decide) f_9 (fun _ h => h) rfl dX5_isSame_71 ?_
          refine z_frV (w0 := ((y0, .inr (5, [.ref yk, .ref ym, .int (nI q), .int (nI sg), .int (nI rp), .int (nI lo), .int ea])) :: (ym, .inl (cI, n, .inl (nA t))) :: (yk, .inl (zQ D, k, .inr (.inr (.inr (.inr (zrf R)))))) :: rwW cI R Lf T k)) (As := [.ref yk]) (rest := [.int (nI (costN n (sN (ctW C ps t) cnt)))]) ⟨hx, hb, hml, hown, hts⟩ (c_X5_cost l D cI y0 yk ym q sg rp lo ea R T Lf k t n f lf C ps cnt yk (by first | assumption | omega) (by first | assumption | omega) (by first | assumption | omega) (by first | assumption | omega) (by first | assumption | omega) _) (cwV 1 hts gX5_isSame_X5_cost rfl rfl rfl hd_X5_cost ⟨Nat.le_of_ble_eq_true rfl, Nat.le_of_ble_eq_true rfl⟩) ⟨hK, hE⟩ (fr_cons ((fr_old hP0 hS hA2) 12 _ rfl) (fr_cons ((fr_old hP0 hS hA2) 13 _ rfl) (fr_cons ((fr_old hP0 hS hA2) 14 _ rfl) ((fr_drop 15 (fr_old hP0 hS hA2) rfl))))) hP (hD.to rfl) hS hA (va_recv hK (fr_old hP0 hS hA2) (ci := 5) (q0 := 12) rfl rfl) rfl hl.1 rfl (Nat.le_of_ble_eq_true rfl) dX5_isSame_74 (Nat.le_of_ble_eq_true rfl) (Nat.le_of_ble_eq_true rfl) (fun v9 u9 H locs hp hP hD hS => ?_)
          obtain rfl := hp
          have hP : va_P D vwCl [(z_8, .inl (zQ D, 2, .inr (.inr (.inr (.inr (zq2 ma_8 le_8)))))), (le_8, .inl (cI, n + 1, .inl (nA (lfz lf n)))), (ma_8, .inl (cI, n + 1, .inl (nA f)))] H := hP
          have hD : zDD A ([z_8, le_8, ma_8]) := zDD.of hD
          refine W.eq (g2 := F0 mi 77 ls [.int (nI (costN n (sN (ctW C ps t) cnt))), .int (nI (costN n (sN (ctW C ps t) cnt)))]) rfl ?_
          refine z_icmp_ne (tgt := 148) hx hb dX5_isSame_77 (by decide) (by omega) (by omega) (fun c_77 => ?_) (fun c_77 => ?_)
          · exact absurd rfl c_77
          · refine lv_aload_n hx hb dX5_isSame_80 rfl (lv_at hl 3 rfl) ?_
            refine z_roV (w0 := [(h0, .inr (4, [.ref b0, .ref m0, .ref p0, .ref s0, .ref q0, .int (nI q), .int (nI sg), .int (nI rp), .int (nI lo), .int ea])), (p0, .inr (2, [.ref p1, .ref p2, .ref p3, .ref p4, .int (nI cnt)])), (p1, .inl (cI, 25, .inl (nA f))), (p2, .inl (cI, 24, .inl (nA lf))), (p3, .inl (cI, 24, .inl C)), (p4, .inl (cI, 24, .inl (nA ps))), (m0, .inr (1, [.ref m1, .int (nI n)])), (m1, .inl (cI, 24, .inl (nA t)))]) (As := []) (rest := []) ⟨hx, hb, hml, hown, hts⟩ (c_X4_saved l D cI h0 b0 m0 p0 s0 q0 q sg (nI rp) (nI lo) ea p1 p2 p3 p4 f lf C ps cnt m1 t n (by first | assumption | omega) (by first | assumption | omega) (by first | assumption | omega) (by first | assumption | omega)) (cwV 0 hts gX5_isSame_X4_saved rfl rfl rfl hd_X4_saved ⟨Nat.le_of_ble_eq_true rfl, Nat.le_of_ble_eq_true rfl⟩) ⟨hK, hE⟩ (fr_cons ((fr_old hP0 hS hA2) 0 _ rfl) (fr_cons ((fr_old hP0 hS hA2) 6 _ rfl) (fr_cons ((fr_old hP0 hS hA2) 7 _ rfl) (fr_cons ((fr_old hP0 hS hA2) 8 _ rfl) (fr_cons ((fr_old hP0 hS hA2) 9 _ rfl) (fr_cons ((fr_old hP0 hS hA2) 10 _ rfl) (fr_cons ((fr_old hP0 hS hA2) 4 _ rfl) (fr_cons ((fr_old hP0 hS hA2) 5 _ rfl) (va_P_nil _ _ _))))))))) (va_recv hK (fr_old hP0 hS hA2) (ci := 4) (q0 := 0) rfl rfl) rfl hl.1 rfl (Nat.le_of_ble_eq_true rfl) dX5_isSame_81 (Nat.le_of_ble_eq_true rfl) (Nat.le_of_ble_eq_true rfl) ?_
            refine lv_aload_n hx hb dX5_isSame_84 rfl (lv_at hl 2 rfl) ?_
            refine lv_iconst (v := nI 0) hx hb dX5_isSame_85 ci_0 ?_
            refine zq_new (B := 0) hx hb hown (hts (.classLink RX5 7 "[I") (by decide +kernel)) hE hP (hD.to rfl) hS hA (by decide) (by decide) (Nat.le_of_ble_eq_true rfl) (Nat.le_of_ble_eq_true rfl) dX5_isSame_86 (fun zz H _ hP hD hS => ?_)
            have hP : va_P D vwCl [(zz, .inl (zQ D, 0, .inr (.inr (.inr (.inr (fun _ => none)))))), (z_8, .inl (zQ D, 2, .inr (.inr (.inr (.inr (zq2 ma_8 le_8)))))), (le_8, .inl (cI, n + 1, .inl (nA (lfz lf n)))), (ma_8, .inl (cI, n + 1, .inl (nA f)))] H := hP
            have hD : zDD A ([zz, z_8, le_8, ma_8]) := zDD.of hD
            have hP := fr_setQ hP 0 (zrf R) rfl (fun j hj => absurd hj (Nat.not_lt_zero _))
            have hP : va_P D vwCl [(zz, .inl (zQ D, 0, .inr (.inr (.inr (.inr (zrf R)))))), (z_8, .inl (zQ D, 2, .inr (.inr (.inr (.inr (zq2 ma_8 le_8)))))), (le_8, .inl (cI, n + 1, .inl (nA (lfz lf n)))), (ma_8, .inl (cI, n + 1, .inl (nA f)))] H := hP
            refine z_frV (w0 := ((y0, .inr (5, [.ref yk, .ref ym, .int (nI q), .int (nI sg), .int (nI rp), .int (nI lo), .int ea])) :: (ym, .inl (cI, n, .inl (nA t))) :: (zz, .inl (zQ D, 0, .inr (.inr (.inr (.inr (zrf R)))))) :: rwW cI R Lf T 0)) (As := [.ref zz]) (rest := [.int (nI (costN n (sN (fun j => wc (t j)) n)) - nI (costN n (sN (ctW C ps t) cnt)))]) ⟨hx, hb, hml, hown, hts⟩ (c_X5_cost l D cI y0 yk ym q sg rp lo ea R T Lf 0 t n (fun w => n - w) (fun _ => 1) (fun _ => -1) (fun g => g) n zz (by first | assumption | omega) (Nat.zero_le _) (fun c hc => absurd hc (Nat.not_lt_zero _)) (by first | assumption | omega) (part_0 t n T Lf) _) (cwV 1 hts gX5_isSame_X5_cost rfl rfl rfl hd_X5_cost ⟨Nat.le_of_ble_eq_true rfl, Nat.le_of_ble_eq_true rfl⟩) ⟨hK, hE⟩ (fr_cons ((fr_old hP0 hS hA2) 12 _ rfl) (fr_cons ((fr_old hP0 hS hA2) 13 _ rfl) (fr_cons (hP 0 _ rfl) ((rw_none _ _ _ _ _ _))))) hP (hD.to rfl) hS hA (va_recv hK (fr_old hP0 hS hA2) (ci := 5) (q0 := 12) rfl rfl) rfl hl.1 rfl (Nat.le_of_ble_eq_true rfl) dX5_isSame_89 (Nat.le_of_ble_eq_true rfl) (Nat.le_of_ble_eq_true rfl) (fun v9 u9 H locs hp hP hD hS => ?_)
            obtain rfl := hp
            have hP : va_P D vwCl [(zz, .inl (zQ D, 0, .inr (.inr (.inr (.inr (zrf R)))))), (z_8, .inl (zQ D, 2, .inr (.inr (.inr (.inr (zq2 ma_8 le_8)))))), (le_8, .inl (cI, n + 1, .inl (nA (lfz lf n)))), (ma_8, .inl (cI, n + 1, .inl (nA f)))] H := hP
            have hD : zDD A ([zz, z_8, le_8, ma_8]) := zDD.of hD
            refine W.eq (g2 := F0 mi 92 ls [.int (nI (costN n (sN (ctW (fun _ => -1) (fun g => g) t) n))), .int (nI (costN n (sN (fun j => wc (t j)) n)) - nI (costN n (sN (ctW C ps t) cnt)))]) rfl ?_
            refine z_top (y := nI (costN n (sN (fun j => wc (t j)) n))) (congrArg (fun z => nI (costN n z)) (ct_0 t n)) ?_
            refine lv_aload_n hx hb dX5_isSame_92 rfl (lv_at hl 2 rfl) ?_
            refine lv_aload_n hx hb dX5_isSame_93 rfl (lv_at hl 2 rfl) ?_
            refine va_get (v := .ref yk) hx hb hts hi_5 hown hK (fr_old hP0 hS hA2) 12 rfl rfl 0 (by decide) f_9 (fun _ h => h) rfl dX5_isSame_94 ?_
            refine z_frV (w0 := ((y0, .inr (5, [.ref yk, .ref ym, .int (nI q), .int (nI sg), .int (nI rp), .int (nI lo), .int ea])) :: (ym, .inl (cI, n, .inl (nA t))) :: (yk, .inl (zQ D, k, .inr (.inr (.inr (.inr (zrf R)))))) :: rwW cI R Lf T k)) (As := [.ref yk]) (rest := [.int (nI (costN n (sN (fun j => wc (t j)) n))), .int (nI (costN n (sN (fun j => wc (t j)) n)) - nI (costN n (sN (ctW C ps t) cnt)))]) ⟨hx, hb, hml, hown, hts⟩ (c_X5_cost l D cI y0 yk ym q sg rp lo ea R T Lf k t n f lf C ps cnt yk (by first | assumption | omega) (by first | assumption | omega) (by first | assumption | omega) (by first | assumption | omega) (by first | assumption | omega) _) (cwV 1 hts gX5_isSame_X5_cost rfl rfl rfl hd_X5_cost ⟨Nat.le_of_ble_eq_true rfl, Nat.le_of_ble_eq_true rfl⟩) ⟨hK, hE⟩ (fr_cons ((fr_old hP0 hS hA2) 12 _ rfl) (fr_cons ((fr_old hP0 hS hA2) 13 _ rfl) (fr_cons ((fr_old hP0 hS hA2) 14 _ rfl) ((fr_drop 15 (fr_old hP0 hS hA2) rfl))))) hP (hD.to rfl) hS hA (va_recv hK (fr_old hP0 hS hA2) (ci := 5) (q0 := 12) rfl rfl) rfl hl.1 rfl (Nat.le_of_ble_eq_true rfl) dX5_isSame_97 (Nat.le_of_ble_eq_true rfl) (Nat.le_of_ble_eq_true rfl) (fun v9 u9 H locs hp hP hD hS => ?_)
            obtain rfl := hp
            have hP : va_P D vwCl [(zz, .inl (zQ D, 0, .inr (.inr (.inr (.inr (zrf R)))))), (z_8, .inl (zQ D, 2, .inr (.inr (.inr (.inr (zq2 ma_8 le_8)))))), (le_8, .inl (cI, n + 1, .inl (nA (lfz lf n)))), (ma_8, .inl (cI, n + 1, .inl (nA f)))] H := hP
            have hD : zDD A ([zz, z_8, le_8, ma_8]) := zDD.of hD
            refine W.eq (g2 := F0 mi 100 ls [.int (nI (costN n (sN (ctW C ps t) cnt))), .int (nI (costN n (sN (fun j => wc (t j)) n))), .int (nI (costN n (sN (fun j => wc (t j)) n)) - nI (costN n (sN (ctW C ps t) cnt)))]) rfl ?_
            refine lv_isub hx hb dX5_isSame_100 ?_
            refine lv_icmp_ne (tgt := 148) hx hb dX5_isSame_101 (by decide) (fun c_101 => ?_) (fun c_101 => ?_)
            · exact absurd rfl c_101
            · refine lv_aload_n hx hb dX5_isSame_104 rfl (lv_at hl 3 rfl) ?_
              refine z_roV (w0 := [(h0, .inr (4, [.ref b0, .ref m0, .ref p0, .ref s0, .ref q0, .int (nI q), .int (nI sg), .int (nI rp), .int (nI lo), .int ea]))]) (As := []) (rest := []) ⟨hx, hb, hml, hown, hts⟩ (c_X4_sentGroups l D cI h0 b0 m0 p0 s0 q0 q sg (nI rp) (nI lo) ea) (cwV 0 hts gX5_isSame_X4_sentGroups rfl rfl rfl hd_X4_sentGroups ⟨Nat.le_of_ble_eq_true rfl, Nat.le_of_ble_eq_true rfl⟩) ⟨hK, hE⟩ (fr_cons ((fr_old hP0 hS hA2) 0 _ rfl) (va_P_nil _ _ _)) (va_recv hK (fr_old hP0 hS hA2) (ci := 4) (q0 := 0) rfl rfl) rfl hl.1 rfl (Nat.le_of_ble_eq_true rfl) dX5_isSame_105 (Nat.le_of_ble_eq_true rfl) (Nat.le_of_ble_eq_true rfl) ?_
              refine lv_aload_n hx hb dX5_isSame_108 rfl (lv_at hl 2 rfl) ?_
              refine va_get (v := .int (nI sg)) hx hb hts hi_5 hown hK (fr_old hP0 hS hA2) 12 rfl rfl 3 (by decide) f_34 (fun _ h => h) rfl dX5_isSame_109 ?_
              refine z_icmp_ne (tgt := 148) hx hb dX5_isSame_112 (by decide) (by omega) (by omega) (fun c_112 => ?_) (fun c_112 => ?_)
              · exact absurd rfl c_112
              · refine lv_aload_n hx hb dX5_isSame_115 rfl (lv_at hl 3 rfl) ?_
                refine z_roV (w0 := [(h0, .inr (4, [.ref b0, .ref m0, .ref p0, .ref s0, .ref q0, .int (nI q), .int (nI sg), .int (nI rp), .int (nI lo), .int ea]))]) (As := []) (rest := []) ⟨hx, hb, hml, hown, hts⟩ (c_X4_repeats l D cI h0 b0 m0 p0 s0 q0 q sg (nI rp) (nI lo) ea) (cwV 0 hts gX5_isSame_X4_repeats rfl rfl rfl hd_X4_repeats ⟨Nat.le_of_ble_eq_true rfl, Nat.le_of_ble_eq_true rfl⟩) ⟨hK, hE⟩ (fr_cons ((fr_old hP0 hS hA2) 0 _ rfl) (va_P_nil _ _ _)) (va_recv hK (fr_old hP0 hS hA2) (ci := 4) (q0 := 0) rfl rfl) rfl hl.1 rfl (Nat.le_of_ble_eq_true rfl) dX5_isSame_116 (Nat.le_of_ble_eq_true rfl) (Nat.le_of_ble_eq_true rfl) ?_
                refine lv_aload_n hx hb dX5_isSame_119 rfl (lv_at hl 2 rfl) ?_
                refine va_get (v := .int (nI rp)) hx hb hts hi_5 hown hK (fr_old hP0 hS hA2) 12 rfl rfl 4 (by decide) f_68 (fun _ h => h) rfl dX5_isSame_120 ?_
                refine z_icmp_ne (tgt := 148) hx hb dX5_isSame_123 (by decide) (by omega) (by omega) (fun c_123 => ?_) (fun c_123 => ?_)
                · exact absurd rfl c_123
                · refine lv_aload_n hx hb dX5_isSame_126 rfl (lv_at hl 3 rfl) ?_
                  refine z_roV (w0 := [(h0, .inr (4, [.ref b0, .ref m0, .ref p0, .ref s0, .ref q0, .int (nI q), .int (nI sg), .int (nI rp), .int (nI lo), .int ea]))]) (As := []) (rest := []) ⟨hx, hb, hml, hown, hts⟩ (c_X4_lost l D cI h0 b0 m0 p0 s0 q0 q sg (nI rp) (nI lo) ea) (cwV 0 hts gX5_isSame_X4_lost rfl rfl rfl hd_X4_lost ⟨Nat.le_of_ble_eq_true rfl, Nat.le_of_ble_eq_true rfl⟩) ⟨hK, hE⟩ (fr_cons ((fr_old hP0 hS hA2) 0 _ rfl) (va_P_nil _ _ _)) (va_recv hK (fr_old hP0 hS hA2) (ci := 4) (q0 := 0) rfl rfl) rfl hl.1 rfl (Nat.le_of_ble_eq_true rfl) dX5_isSame_127 (Nat.le_of_ble_eq_true rfl) (Nat.le_of_ble_eq_true rfl) ?_
                  refine lv_aload_n hx hb dX5_isSame_130 rfl (lv_at hl 2 rfl) ?_
                  refine va_get (v := .int (nI lo)) hx hb hts hi_5 hown hK (fr_old hP0 hS hA2) 12 rfl rfl 5 (by decide) f_73 (fun _ h => h) rfl dX5_isSame_131 ?_
                  refine z_icmp_ne (tgt := 148) hx hb dX5_isSame_134 (by decide) (by omega) (by omega) (fun c_134 => ?_) (fun c_134 => ?_)
                  · exact absurd rfl c_134
                  · refine lv_aload_n hx hb dX5_isSame_137 rfl (lv_at hl 3 rfl) ?_
                    refine z_roV (w0 := [(h0, .inr (4, [.ref b0, .ref m0, .ref p0, .ref s0, .ref q0, .int (nI q), .int (nI sg), .int (nI rp), .int (nI lo), .int ea]))]) (As := []) (rest := []) ⟨hx, hb, hml, hown, hts⟩ (c_X4_earned l D cI h0 b0 m0 p0 s0 q0 q sg (nI rp) (nI lo) ea) (cwV 0 hts gX5_isSame_X4_earned rfl rfl rfl hd_X4_earned ⟨Nat.le_of_ble_eq_true rfl, Nat.le_of_ble_eq_true rfl⟩) ⟨hK, hE⟩ (fr_cons ((fr_old hP0 hS hA2) 0 _ rfl) (va_P_nil _ _ _)) (va_recv hK (fr_old hP0 hS hA2) (ci := 4) (q0 := 0) rfl rfl) rfl hl.1 rfl (Nat.le_of_ble_eq_true rfl) dX5_isSame_138 (Nat.le_of_ble_eq_true rfl) (Nat.le_of_ble_eq_true rfl) ?_
                    refine lv_aload_n hx hb dX5_isSame_141 rfl (lv_at hl 2 rfl) ?_
                    refine va_get (v := .int ea) hx hb hts hi_5 hown hK (fr_old hP0 hS hA2) 12 rfl rfl 6 (by decide) f_78 (fun _ h => h) rfl dX5_isSame_142 ?_
                    refine lv_icmp_eq (tgt := 150) hx hb dX5_isSame_145 (by decide) (fun c_145 => ?_) (fun c_145 => ?_)
                    · refine lv_aload_n hx hb dX5_isSame_150 rfl (lv_at hl 2 rfl) ?_
                      refine va_get (v := .ref yk) hx hb hts hi_5 hown hK (fr_old hP0 hS hA2) 12 rfl rfl 0 (by decide) f_9 (fun _ h => h) rfl dX5_isSame_151 ?_
                      refine zq_len hx hb hK hE (fr_old hP0 hS hA2) 14 rfl dX5_isSame_154 ?_
                      refine zf_newaN (B := 8) hx hb (hts (.arrayClass .int) (by decide +kernel)) hK hP (hD.to rfl) hS hA (by omega) (by omega) (Nat.le_of_ble_eq_true rfl) (Nat.le_of_ble_eq_true rfl) dX5_isSame_155 (fun us H hP hD hS => ?_)
                      have hP : va_P D vwCl [(us, .inl (cI, k, .inl (nA (fun _ => 0)))), (zz, .inl (zQ D, 0, .inr (.inr (.inr (.inr (zrf R)))))), (z_8, .inl (zQ D, 2, .inr (.inr (.inr (.inr (zq2 ma_8 le_8)))))), (le_8, .inl (cI, n + 1, .inl (nA (lfz lf n)))), (ma_8, .inl (cI, n + 1, .inl (nA f)))] H := hP
                      have hD : zDD A ([us, zz, z_8, le_8, ma_8]) := zDD.of hD
                      refine lv_astore (lv' := [(4, .ref us), (3, .int (nI cnt)), (2, .ref z_8), (0, .ref y0), (1, .ref h0)]) hx hb dX5_isSame_157 hl (by decide) rfl (fun ls hl => ?_)
                      refine lv_iconst (v := nI 0) hx hb dX5_isSame_159 ci_0 ?_
                      refine lv_istore (lv' := [(5, .int (nI 0)), (4, .ref us), (3, .int (nI cnt)), (2, .ref z_8), (0, .ref y0), (1, .ref h0)]) hx hb dX5_isSame_160 hl (by decide) rfl (fun ls hl => ?_)
                      refine lv_iconst (v := nI 0) hx hb dX5_isSame_162 ci_0 ?_
                      refine lv_istore (lv' := [(6, .int (nI 0)), (5, .int (nI 0)), (4, .ref us), (3, .int (nI cnt)), (2, .ref z_8), (0, .ref y0), (1, .ref h0)]) hx hb dX5_isSame_163 hl (by decide) rfl (fun ls hl => ?_)
                      have lp_165 : ∀ (Nf : Nat) (g : Nat) (us9 : Nat → Nat) (hg : g ≤ cnt) (hu : ∀ c, c < k → us9 c = cN (fun j => C (ps j) = nI c) g) (hN : cnt - g < Nf) (H : Heap) (locs : List Loc) (ls : Array Slot), va_P D vwCl [(us, .inl (cI, k, .inl (nA us9))), (zz, .inl (zQ D, 0, .inr (.inr (.inr (.inr (zrf R)))))), (z_8, .inl (zQ D, 2, .inr (.inr (.inr (.inr (zq2 ma_8 le_8)))))), (le_8, .inl (cI, n + 1, .inl (nA (lfz lf n)))), (ma_8, .inl (cI, n + 1, .inl (nA f)))] H → va_S A sv.heap H locs → lv_has ls 9 [(6, .int (nI g)), (5, .int (nI (posN lf g))), (4, .ref us), (3, .int (nI cnt)), (2, .ref z_8), (0, .ref y0), (1, .ref h0)] → W pg l ev rm_X5_isSame sv mi ag bl mt cd H locs 17 268 Q (F0 mi 165 ls []) := by
                        intro Nf
                        induction Nf with
                        | zero =>
                          intro g us9 hg hu hN
                          exact absurd hN (Nat.not_lt_zero _)
                        | succ Nf ih_165 =>
                          intro g us9 hg hu hN H locs ls hP hS hl
                          refine lv_iload hx hb dX5_isSame_165 (lv_at hl 0 rfl) ?_
                          refine lv_iload_n hx hb dX5_isSame_167 rfl (lv_at hl 3 rfl) ?_
                          refine z_icmp_ge (tgt := 250) hx hb dX5_isSame_168 (by decide) (by omega) (by omega) (fun c_168 => ?_) (fun c_168 => ?_)
                          · have hge : g = cnt := by omega
                            have huf : ∀ c, c < k → us9 c = cN (fun j => C (ps j) = nI c) cnt := fun c hc => by rw [← hge]; exact hu c hc
                            have hpe : posN lf g = n := by rw [hge]; exact hpart.2.2.1
                            refine lv_iconst (v := nI 0) hx hb dX5_isSame_250 ci_0 ?_
                            refine lv_istore (lv' := [(6, .int (nI 0)), (5, .int (nI (posN lf g))), (4, .ref us), (3, .int (nI cnt)), (2, .ref z_8), (0, .ref y0), (1, .ref h0)]) hx hb dX5_isSame_251 hl (by decide) rfl (fun ls hl => ?_)
                            refine lv_iconst (v := nI 0) hx hb dX5_isSame_253 ci_0 ?_
                            refine lv_istore (lv' := [(7, .int (nI 0)), (6, .int (nI 0)), (5, .int (nI (posN lf g))), (4, .ref us), (3, .int (nI cnt)), (2, .ref z_8), (0, .ref y0), (1, .ref h0)]) hx hb dX5_isSame_254 hl (by decide) rfl (fun ls hl => ?_)
                            have lp_256 : ∀ (Nf : Nat) (a : Nat) (ha : a ≤ k) (hN : k - a < Nf) (H : Heap) (locs : List Loc) (ls : Array Slot), va_P D vwCl [(us, .inl (cI, k, .inl (nA us9))), (zz, .inl (zQ D, 0, .inr (.inr (.inr (.inr (zrf R)))))), (z_8, .inl (zQ D, 2, .inr (.inr (.inr (.inr (zq2 ma_8 le_8)))))), (le_8, .inl (cI, n + 1, .inl (nA (lfz lf n)))), (ma_8, .inl (cI, n + 1, .inl (nA f)))] H → va_S A sv.heap H locs → lv_has ls 9 [(7, .int (nI a)), (6, .int (nI (sN Lf a))), (5, .int (nI (posN lf g))), (4, .ref us), (3, .int (nI cnt)), (2, .ref z_8), (0, .ref y0), (1, .ref h0)] → W pg l ev rm_X5_isSame sv mi ag bl mt cd H locs 17 268 Q (F0 mi 256 ls []) := by
                              intro Nf
                              induction Nf with
                              | zero =>
                                intro a ha hN
                                exact absurd hN (Nat.not_lt_zero _)
                              | succ Nf ih_256 =>
                                intro a ha hN H locs ls hP hS hl
                                refine lv_iload hx hb dX5_isSame_256 (lv_at hl 0 rfl) ?_
                                refine lv_aload_n hx hb dX5_isSame_258 rfl (lv_at hl 6 rfl) ?_
                                refine va_get (v := .ref yk) hx hb hts hi_5 hown hK (fr_old hP0 hS hA2) 12 rfl rfl 0 (by decide) f_9 (fun _ h => h) rfl dX5_isSame_259 ?_
                                refine zq_len hx hb hK hE (fr_old hP0 hS hA2) 14 rfl dX5_isSame_262 ?_
                                refine z_icmp_ge (tgt := 318) hx hb dX5_isSame_263 (by decide) (by omega) (by omega) (fun c_263 => ?_) (fun c_263 => ?_)
                                · have hak : a = k := by omega
                                  refine lv_iconst (v := nI 0) hx hb dX5_isSame_318 ci_0 ?_
                                  refine lv_istore (lv' := [(7, .int (nI 0)), (6, .int (nI (sN Lf a))), (5, .int (nI (posN lf g))), (4, .ref us), (3, .int (nI cnt)), (2, .ref z_8), (0, .ref y0), (1, .ref h0)]) hx hb dX5_isSame_319 hl (by decide) rfl (fun ls hl => ?_)
                                  have lp_321 : ∀ (Nf : Nat) (a2 : Nat) (ha2 : a2 ≤ n) (hN : n - a2 < Nf) (H : Heap) (locs : List Loc) (ls : Array Slot), va_P D vwCl [(us, .inl (cI, k, .inl (nA us9))), (zz, .inl (zQ D, 0, .inr (.inr (.inr (.inr (zrf R)))))), (z_8, .inl (zQ D, 2, .inr (.inr (.inr (.inr (zq2 ma_8 le_8)))))), (le_8, .inl (cI, n + 1, .inl (nA (lfz lf n)))), (ma_8, .inl (cI, n + 1, .inl (nA f)))] H → va_S A sv.heap H locs → lv_has ls 9 [(7, .int (nI a2)), (6, .int (nI (sN Lf a))), (5, .int (nI (posN lf g))), (4, .ref us), (3, .int (nI cnt)), (2, .ref z_8), (0, .ref y0), (1, .ref h0)] → W pg l ev rm_X5_isSame sv mi ag bl mt cd H locs 17 268 Q (F0 mi 321 ls []) := by
                                    intro Nf
                                    induction Nf with
                                    | zero =>
                                      intro a2 ha2 hN
                                      exact absurd hN (Nat.not_lt_zero _)
                                    | succ Nf ih_321 =>
                                      intro a2 ha2 hN H locs ls hP hS hl
                                      refine lv_iload hx hb dX5_isSame_321 (lv_at hl 0 rfl) ?_
                                      refine lv_aload_n hx hb dX5_isSame_323 rfl (lv_at hl 6 rfl) ?_
                                      refine va_get (v := .ref ym) hx hb hts hi_5 hown hK (fr_old hP0 hS hA2) 12 rfl rfl 1 (by decide) f_15 (fun _ h => h) rfl dX5_isSame_324 ?_
                                      refine va_alen (v := nI n) hx hb hK (fr_old hP0 hS hA2) 13 0 rfl rfl rfl dX5_isSame_327 ?_
                                      refine z_icmp_ge (tgt := 355) hx hb dX5_isSame_328 (by decide) (by omega) (by omega) (fun c_328 => ?_) (fun c_328 => ?_)
                                      · refine lv_iload hx hb dX5_isSame_355 (lv_at hl 2 rfl) ?_
                                        refine lv_aload_n hx hb dX5_isSame_357 rfl (lv_at hl 6 rfl) ?_
                                        refine va_get (v := .ref ym) hx hb hts hi_5 hown hK (fr_old hP0 hS hA2) 12 rfl rfl 1 (by decide) f_15 (fun _ h => h) rfl dX5_isSame_358 ?_
                                        refine va_alen (v := nI n) hx hb hK (fr_old hP0 hS hA2) 13 0 rfl rfl rfl dX5_isSame_361 ?_
                                        refine z_icmp_ne (tgt := 399) hx hb dX5_isSame_362 (by decide) (by omega) (by omega) (fun c_362 => ?_) (fun c_362 => ?_)
                                        · exact absurd hpe c_362
                                        · refine lv_aload_n hx hb dX5_isSame_365 rfl (lv_at hl 7 rfl) ?_
                                          have hsk := sN_le (f := Lf) (b := 4) k (fun j hj => (hL j hj).2)
                                          refine z_roV (w0 := [(h0, .inr (4, [.ref b0, .ref m0, .ref p0, .ref s0, .ref q0, .int (nI q), .int (nI sg), .int (nI rp), .int (nI lo), .int ea])), (b0, .inr (0, [.ref b1, .ref b2, .int (nI k)])), (b1, .inl (cI, 32, .inl T)), (b2, .inl (cI, 8, .inl (nA Lf)))]) (As := []) (rest := []) ⟨hx, hb, hml, hown, hts⟩ (c_X4_meanLength l D cI h0 b0 m0 p0 s0 q0 q sg (nI rp) (nI lo) ea b1 b2 T Lf k (by first | assumption | omega) (by first | assumption | omega)) (cwV 0 hts gX5_isSame_X4_meanLength rfl rfl rfl hd_X4_meanLength ⟨Nat.le_of_ble_eq_true rfl, Nat.le_of_ble_eq_true rfl⟩) ⟨hK, hE⟩ (fr_cons ((fr_old hP0 hS hA2) 0 _ rfl) (fr_cons ((fr_old hP0 hS hA2) 1 _ rfl) (fr_cons ((fr_old hP0 hS hA2) 2 _ rfl) (fr_cons ((fr_old hP0 hS hA2) 3 _ rfl) (va_P_nil _ _ _))))) (va_recv hK (fr_old hP0 hS hA2) (ci := 4) (q0 := 0) rfl rfl) rfl hl.1 rfl (Nat.le_of_ble_eq_true rfl) dX5_isSame_366 (Nat.le_of_ble_eq_true rfl) (Nat.le_of_ble_eq_true rfl) ?_
                                          refine lv_aload_n hx hb dX5_isSame_369 rfl (lv_at hl 6 rfl) ?_
                                          refine va_get (v := .ref yk) hx hb hts hi_5 hown hK (fr_old hP0 hS hA2) 12 rfl rfl 0 (by decide) f_9 (fun _ h => h) rfl dX5_isSame_370 ?_
                                          refine zq_len hx hb hK hE (fr_old hP0 hS hA2) 14 rfl dX5_isSame_373 ?_
                                          refine z_if_ne (tgt := 381) hx hb dX5_isSame_374 (by decide) (by omega) (fun c_374 => ?_) (fun c_374 => ?_)
                                          · skip
                                            refine lv_iload hx hb dX5_isSame_381 (lv_at hl 1 rfl) ?_
                                            refine lv_i2d hx hb dX5_isSame_383 ?_
                                            refine lv_aload_n hx hb dX5_isSame_384 rfl (lv_at hl 6 rfl) ?_
                                            refine va_get (v := .ref yk) hx hb hts hi_5 hown hK (fr_old hP0 hS hA2) 12 rfl rfl 0 (by decide) f_9 (fun _ h => h) rfl dX5_isSame_385 ?_
                                            refine zq_len hx hb hK hE (fr_old hP0 hS hA2) 14 rfl dX5_isSame_388 ?_
                                            refine lv_i2d hx hb dX5_isSame_389 ?_
                                            refine lv_ddiv hx hb dX5_isSame_390 (by rw [hak]; exact ml_nan (by omega) (by omega) (by omega)) ?_
                                            refine lv_dcmp hx hb dX5_isSame_391 ?_
                                            refine z_top (y := nI 0) (by rw [mlN, if_neg (by omega), hak]; exact dc_dec _ (by omega) _ (by omega) (by omega)) ?_
                                            refine z_if_ne (tgt := 399) hx hb dX5_isSame_392 (by decide) (by omega) (fun c_392 => ?_) (fun c_392 => ?_)
                                            · exact absurd c_392 (Nat.lt_irrefl _)
                                            · refine lv_iconst (v := nI 1) hx hb dX5_isSame_395 ci_1 ?_
                                              refine lv_goto (tgt := 400) hx hb dX5_isSame_396 (by decide) ?_
                                              exact fr_zret hQ hx hb hr hlocks (z1_1 trivial) (Nat.le_of_ble_eq_true rfl) (Nat.le_of_ble_eq_true rfl) () (va_P_nil _ _ _) ⟨fun i j p q h => (by simp at h), fun k q h => (by simp at h)⟩ hS rfl dX5_isSame_400
                                          · refine lv_dconst0 hx hb dX5_isSame_377 ?_
                                            refine lv_goto (tgt := 391) hx hb dX5_isSame_378 (by decide) ?_
                                            refine lv_dcmp hx hb dX5_isSame_391 ?_
                                            refine z_top (y := nI 0) (by rw [mlN, if_pos c_374]; exact dc_0) ?_
                                            refine z_if_ne (tgt := 399) hx hb dX5_isSame_392 (by decide) (by omega) (fun c_392 => ?_) (fun c_392 => ?_)
                                            · exact absurd c_392 (Nat.lt_irrefl _)
                                            · refine lv_iconst (v := nI 1) hx hb dX5_isSame_395 ci_1 ?_
                                              refine lv_goto (tgt := 400) hx hb dX5_isSame_396 (by decide) ?_
                                              exact fr_zret hQ hx hb hr hlocks (z1_1 trivial) (Nat.le_of_ble_eq_true rfl) (Nat.le_of_ble_eq_true rfl) () (va_P_nil _ _ _) ⟨fun i j p q h => (by simp at h), fun k q h => (by simp at h)⟩ hS rfl dX5_isSame_400
                                      · have hta := ht a2 (by omega)
                                        refine lv_aload_n hx hb dX5_isSame_331 rfl (lv_at hl 7 rfl) ?_
                                        refine lv_iload hx hb dX5_isSame_332 (lv_at hl 0 rfl) ?_
                                        refine z_roV (w0 := [(h0, .inr (4, [.ref b0, .ref m0, .ref p0, .ref s0, .ref q0, .int (nI q), .int (nI sg), .int (nI rp), .int (nI lo), .int ea])), (m0, .inr (1, [.ref m1, .int (nI n)])), (m1, .inl (cI, 24, .inl (nA t)))]) (As := [.int (nI a2)]) (rest := []) ⟨hx, hb, hml, hown, hts⟩ (c_X4_typeOf l D cI h0 b0 m0 p0 s0 q0 q sg (nI rp) (nI lo) ea m1 t n a2 (by first | assumption | omega) (by first | assumption | omega)) (cwV 1 hts gX5_isSame_X4_typeOf rfl rfl rfl hd_X4_typeOf ⟨Nat.le_of_ble_eq_true rfl, Nat.le_of_ble_eq_true rfl⟩) ⟨hK, hE⟩ (fr_cons ((fr_old hP0 hS hA2) 0 _ rfl) (fr_cons ((fr_old hP0 hS hA2) 4 _ rfl) (fr_cons ((fr_old hP0 hS hA2) 5 _ rfl) (va_P_nil _ _ _)))) (va_recv hK (fr_old hP0 hS hA2) (ci := 4) (q0 := 0) rfl rfl) rfl hl.1 rfl (Nat.le_of_ble_eq_true rfl) dX5_isSame_334 (Nat.le_of_ble_eq_true rfl) (Nat.le_of_ble_eq_true rfl) ?_
                                        refine lv_aload_n hx hb dX5_isSame_337 rfl (lv_at hl 6 rfl) ?_
                                        refine va_get (v := .ref ym) hx hb hts hi_5 hown hK (fr_old hP0 hS hA2) 12 rfl rfl 1 (by decide) f_15 (fun _ h => h) rfl dX5_isSame_338 ?_
                                        refine lv_iload hx hb dX5_isSame_341 (lv_at hl 0 rfl) ?_
                                        refine z_ialdN hx hb hK (fr_old hP0 hS hA2) 13 0 rfl rfl (by omega) (by omega) dX5_isSame_343 ?_
                                        refine z_icmp_eq (tgt := 349) hx hb dX5_isSame_344 (by decide) (by omega) (by omega) (fun c_344 => ?_) (fun c_344 => ?_)
                                        · refine lv_iinc (v := nI (a2 + 1)) (lv' := [(7, .int (nI (a2 + 1))), (6, .int (nI (sN Lf a))), (5, .int (nI (posN lf g))), (4, .ref us), (3, .int (nI cnt)), (2, .ref z_8), (0, .ref y0), (1, .ref h0)]) hx hb dX5_isSame_349 hl (k := 0) rfl (z_inc1 _) (by decide) rfl (fun ls hl => ?_)
                                          refine lv_goto (tgt := 321) hx hb dX5_isSame_352 (by decide) ?_
                                          exact ih_321 (a2 + 1) (by omega) (by omega) H locs ls hP hS (lv_sub hl [0, 1, 2, 3, 4, 5, 6, 7] rfl)
                                        · exact absurd rfl c_344
                                  exact lp_321 ((n - 0) + 1) 0 (Nat.zero_le _) (Nat.lt_succ_self _) H locs ls hP hS hl
                                · have hLa := hL a (by omega)
                                  have hsa := sN_le (f := Lf) (b := 4) a (fun j hj => (hL j (by omega)).2)
                                  have hcb := cN_le (fun i => C (ps i) = nI a) cnt
                                  have hua := huf a (by omega)
                                  refine lv_iload hx hb dX5_isSame_266 (lv_at hl 1 rfl) ?_
                                  refine lv_aload_n hx hb dX5_isSame_268 rfl (lv_at hl 6 rfl) ?_
                                  refine va_get (v := .ref yk) hx hb hts hi_5 hown hK (fr_old hP0 hS hA2) 12 rfl rfl 0 (by decide) f_9 (fun _ h => h) rfl dX5_isSame_269 ?_
                                  refine lv_iload hx hb dX5_isSame_272 (lv_at hl 0 rfl) ?_
                                  refine zq_ald (r := R a) hx hb hK hE (fr_old hP0 hS hA2) 14 rfl (by omega) (by omega) rfl dX5_isSame_274 ?_
                                  refine va_alen (v := nI (Lf a)) hx hb hK (rw_get 15 (fr_old hP0 hS hA2) rfl (by omega)) 0 0 rfl rfl rfl dX5_isSame_275 ?_
                                  refine z_iadd hx hb dX5_isSame_276 ?_
                                  refine lv_istore (lv' := [(6, .int (nI ((sN Lf a) + (Lf a)))), (7, .int (nI a)), (5, .int (nI (posN lf g))), (4, .ref us), (3, .int (nI cnt)), (2, .ref z_8), (0, .ref y0), (1, .ref h0)]) hx hb dX5_isSame_277 hl (by decide) rfl (fun ls hl => ?_)
                                  refine lv_aload_n hx hb dX5_isSame_279 rfl (lv_at hl 7 rfl) ?_
                                  refine lv_iload hx hb dX5_isSame_280 (lv_at hl 1 rfl) ?_
                                  refine z_roV (w0 := [(h0, .inr (4, [.ref b0, .ref m0, .ref p0, .ref s0, .ref q0, .int (nI q), .int (nI sg), .int (nI rp), .int (nI lo), .int ea])), (b0, .inr (0, [.ref b1, .ref b2, .int (nI k)])), (b1, .inl (cI, 32, .inl T)), (b2, .inl (cI, 8, .inl (nA Lf)))]) (As := [.int (nI a)]) (rest := []) ⟨hx, hb, hml, hown, hts⟩ (c_X4_lengthOf l D cI h0 b0 m0 p0 s0 q0 q sg (nI rp) (nI lo) ea b1 b2 T Lf k a (by first | assumption | omega) (by first | assumption | omega)) (cwV 1 hts gX5_isSame_X4_lengthOf rfl rfl rfl hd_X4_lengthOf ⟨Nat.le_of_ble_eq_true rfl, Nat.le_of_ble_eq_true rfl⟩) ⟨hK, hE⟩ (fr_cons ((fr_old hP0 hS hA2) 0 _ rfl) (fr_cons ((fr_old hP0 hS hA2) 1 _ rfl) (fr_cons ((fr_old hP0 hS hA2) 2 _ rfl) (fr_cons ((fr_old hP0 hS hA2) 3 _ rfl) (va_P_nil _ _ _))))) (va_recv hK (fr_old hP0 hS hA2) (ci := 4) (q0 := 0) rfl rfl) rfl hl.1 rfl (Nat.le_of_ble_eq_true rfl) dX5_isSame_282 (Nat.le_of_ble_eq_true rfl) (Nat.le_of_ble_eq_true rfl) ?_
                                  refine lv_aload_n hx hb dX5_isSame_285 rfl (lv_at hl 6 rfl) ?_
                                  refine va_get (v := .ref yk) hx hb hts hi_5 hown hK (fr_old hP0 hS hA2) 12 rfl rfl 0 (by decide) f_9 (fun _ h => h) rfl dX5_isSame_286 ?_
                                  refine lv_iload hx hb dX5_isSame_289 (lv_at hl 1 rfl) ?_
                                  refine zq_ald (r := R a) hx hb hK hE (fr_old hP0 hS hA2) 14 rfl (by omega) (by omega) rfl dX5_isSame_291 ?_
                                  refine va_alen (v := nI (Lf a)) hx hb hK (rw_get 15 (fr_old hP0 hS hA2) rfl (by omega)) 0 0 rfl rfl rfl dX5_isSame_292 ?_
                                  refine z_icmp_ne (tgt := 310) hx hb dX5_isSame_293 (by decide) (by omega) (by omega) (fun c_293 => ?_) (fun c_293 => ?_)
                                  · exact absurd rfl c_293
                                  · refine lv_aload_n hx hb dX5_isSame_296 rfl (lv_at hl 7 rfl) ?_
                                    refine lv_iload hx hb dX5_isSame_297 (lv_at hl 1 rfl) ?_
                                    refine z_roV (w0 := [(h0, .inr (4, [.ref b0, .ref m0, .ref p0, .ref s0, .ref q0, .int (nI q), .int (nI sg), .int (nI rp), .int (nI lo), .int ea])), (b0, .inr (0, [.ref b1, .ref b2, .int (nI k)])), (p0, .inr (2, [.ref p1, .ref p2, .ref p3, .ref p4, .int (nI cnt)])), (p1, .inl (cI, 25, .inl (nA f))), (p2, .inl (cI, 24, .inl (nA lf))), (p3, .inl (cI, 24, .inl C)), (p4, .inl (cI, 24, .inl (nA ps)))]) (As := [.int (nI a)]) (rest := []) ⟨hx, hb, hml, hown, hts⟩ (c_X4_usesOf l D cI h0 b0 m0 p0 s0 q0 q sg (nI rp) (nI lo) ea b1 b2 k p1 p2 p3 p4 f lf C ps cnt a (by first | assumption | omega) (by first | assumption | omega) (fun j hj => by have := hst j hj; omega) (by first | assumption | omega)) (cwV 1 hts gX5_isSame_X4_usesOf rfl rfl rfl hd_X4_usesOf ⟨Nat.le_of_ble_eq_true rfl, Nat.le_of_ble_eq_true rfl⟩) ⟨hK, hE⟩ (fr_cons ((fr_old hP0 hS hA2) 0 _ rfl) (fr_cons ((fr_old hP0 hS hA2) 1 _ rfl) (fr_cons ((fr_old hP0 hS hA2) 6 _ rfl) (fr_cons ((fr_old hP0 hS hA2) 7 _ rfl) (fr_cons ((fr_old hP0 hS hA2) 8 _ rfl) (fr_cons ((fr_old hP0 hS hA2) 9 _ rfl) (fr_cons ((fr_old hP0 hS hA2) 10 _ rfl) (va_P_nil _ _ _)))))))) (va_recv hK (fr_old hP0 hS hA2) (ci := 4) (q0 := 0) rfl rfl) rfl hl.1 rfl (Nat.le_of_ble_eq_true rfl) dX5_isSame_299 (Nat.le_of_ble_eq_true rfl) (Nat.le_of_ble_eq_true rfl) ?_
                                    refine lv_aload hx hb dX5_isSame_302 (lv_at hl 3 rfl) ?_
                                    refine lv_iload hx hb dX5_isSame_304 (lv_at hl 1 rfl) ?_
                                    refine z_ialdN hx hb hK hP 0 0 rfl rfl (by omega) (by omega) dX5_isSame_306 ?_
                                    refine z_icmp_eq (tgt := 312) hx hb dX5_isSame_307 (by decide) (by omega) (by omega) (fun c_307 => ?_) (fun c_307 => ?_)
                                    · refine lv_iinc (v := nI (a + 1)) (lv' := [(7, .int (nI (a + 1))), (6, .int (nI ((sN Lf a) + (Lf a)))), (5, .int (nI (posN lf g))), (4, .ref us), (3, .int (nI cnt)), (2, .ref z_8), (0, .ref y0), (1, .ref h0)]) hx hb dX5_isSame_312 hl (k := 1) rfl (z_inc1 _) (by decide) rfl (fun ls hl => ?_)
                                      refine lv_goto (tgt := 256) hx hb dX5_isSame_315 (by decide) ?_
                                      exact ih_256 (a + 1) (by omega) (by omega) H locs ls hP hS (lv_sub hl [0, 1, 2, 3, 4, 5, 6, 7] rfl)
                                    · exact absurd (huf a (by omega)).symm c_307
                            exact lp_256 ((k - 0) + 1) 0 (Nat.zero_le _) (Nat.lt_succ_self _) H locs ls hP hS hl
                          · have hgp2 := hpart.2.1 g c_168
                            have hlb := hpart.1.2.2.2 (posN lf g) (Nat.zero_le _) hgp2.2
                            refine lv_aload_n hx hb dX5_isSame_171 rfl (lv_at hl 4 rfl) ?_
                            refine lv_iconst (v := nI 1) hx hb dX5_isSame_172 ci_1 ?_
                            refine zq_ald (r := le_8) hx hb hK hE hP 2 rfl (by omega) (by omega) rfl dX5_isSame_173 ?_
                            refine lv_iload hx hb dX5_isSame_174 (lv_at hl 1 rfl) ?_
                            refine z_ialdN hx hb hK hP 3 0 rfl rfl (by omega) (by omega) dX5_isSame_176 ?_
                            refine z_top (y := nI (lf (posN lf g))) (congrArg nI (lfz_in hgp2.2)) ?_
                            refine lv_istore (lv' := [(7, .int (nI (lf (posN lf g)))), (6, .int (nI g)), (5, .int (nI (posN lf g))), (4, .ref us), (3, .int (nI cnt)), (2, .ref z_8), (0, .ref y0), (1, .ref h0)]) hx hb dX5_isSame_177 hl (by decide) rfl (fun ls hl => ?_)
                            refine lv_iload hx hb dX5_isSame_179 (lv_at hl 0 rfl) ?_
                            refine lv_iconst (v := nI 1) hx hb dX5_isSame_181 ci_1 ?_
                            refine z_icmp_ne (tgt := 189) hx hb dX5_isSame_182 (by decide) (by omega) (by omega) (fun c_182 => ?_) (fun c_182 => ?_)
                            · refine lv_aload_n hx hb dX5_isSame_189 rfl (lv_at hl 6 rfl) ?_
                              refine lv_iload hx hb dX5_isSame_190 (lv_at hl 2 rfl) ?_
                              refine lv_iload hx hb dX5_isSame_192 (lv_at hl 0 rfl) ?_
                              refine z_roV (w0 := ((y0, .inr (5, [.ref yk, .ref ym, .int (nI q), .int (nI sg), .int (nI rp), .int (nI lo), .int ea])) :: (ym, .inl (cI, n, .inl (nA t))) :: (yk, .inl (zQ D, k, .inr (.inr (.inr (.inr (zrf R)))))) :: rwW cI R Lf T k)) (As := [.int (nI (posN lf g)), .int (nI (lf (posN lf g)))]) (rest := []) ⟨hx, hb, hml, hown, hts⟩ (c_X5_codeAt l D cI y0 yk ym q sg rp lo ea R T Lf k t n f lf C ps cnt (posN lf g) (by first | assumption | omega) (by first | assumption | omega) (by first | assumption | omega) (by first | assumption | omega) (by first | assumption | omega) hgp2.2 c_182) (cwV 2 hts gX5_isSame_X5_codeAt rfl rfl rfl hd_X5_codeAt ⟨Nat.le_of_ble_eq_true rfl, Nat.le_of_ble_eq_true rfl⟩) ⟨hK, hE⟩ (fr_cons ((fr_old hP0 hS hA2) 12 _ rfl) (fr_cons ((fr_old hP0 hS hA2) 13 _ rfl) (fr_cons ((fr_old hP0 hS hA2) 14 _ rfl) ((fr_drop 15 (fr_old hP0 hS hA2) rfl))))) (va_recv hK (fr_old hP0 hS hA2) (ci := 5) (q0 := 12) rfl rfl) rfl hl.1 rfl (Nat.le_of_ble_eq_true rfl) dX5_isSame_194 (Nat.le_of_ble_eq_true rfl) (Nat.le_of_ble_eq_true rfl) ?_
                              refine z_top (y := C (ps g)) (by rw [hgp2.1]) ?_
                              refine lv_istore (lv' := [(8, .int (C (ps g))), (7, .int (nI (lf (posN lf g)))), (6, .int (nI g)), (5, .int (nI (posN lf g))), (4, .ref us), (3, .int (nI cnt)), (2, .ref z_8), (0, .ref y0), (1, .ref h0)]) hx hb dX5_isSame_197 hl (by decide) rfl (fun ls hl => ?_)
                              refine lv_aload_n hx hb dX5_isSame_199 rfl (lv_at hl 8 rfl) ?_
                              refine lv_iload hx hb dX5_isSame_200 (lv_at hl 2 rfl) ?_
                              refine z_roV (w0 := [(h0, .inr (4, [.ref b0, .ref m0, .ref p0, .ref s0, .ref q0, .int (nI q), .int (nI sg), .int (nI rp), .int (nI lo), .int ea])), (p0, .inr (2, [.ref p1, .ref p2, .ref p3, .ref p4, .int (nI cnt)])), (p1, .inl (cI, 25, .inl (nA f))), (p2, .inl (cI, 24, .inl (nA lf))), (p3, .inl (cI, 24, .inl C)), (p4, .inl (cI, 24, .inl (nA ps)))]) (As := [.int (nI g)]) (rest := []) ⟨hx, hb, hml, hown, hts⟩ (c_X4_startOf l D cI h0 b0 m0 p0 s0 q0 q sg (nI rp) (nI lo) ea p1 p2 p3 p4 f lf C ps cnt g (by first | assumption | omega) (by first | assumption | omega)) (cwV 1 hts gX5_isSame_X4_startOf rfl rfl rfl hd_X4_startOf ⟨Nat.le_of_ble_eq_true rfl, Nat.le_of_ble_eq_true rfl⟩) ⟨hK, hE⟩ (fr_cons ((fr_old hP0 hS hA2) 0 _ rfl) (fr_cons ((fr_old hP0 hS hA2) 6 _ rfl) (fr_cons ((fr_old hP0 hS hA2) 7 _ rfl) (fr_cons ((fr_old hP0 hS hA2) 8 _ rfl) (fr_cons ((fr_old hP0 hS hA2) 9 _ rfl) (fr_cons ((fr_old hP0 hS hA2) 10 _ rfl) (va_P_nil _ _ _))))))) (va_recv hK (fr_old hP0 hS hA2) (ci := 4) (q0 := 0) rfl rfl) rfl hl.1 rfl (Nat.le_of_ble_eq_true rfl) dX5_isSame_202 (Nat.le_of_ble_eq_true rfl) (Nat.le_of_ble_eq_true rfl) ?_
                              refine lv_iload hx hb dX5_isSame_205 (lv_at hl 3 rfl) ?_
                              refine z_icmp_ne (tgt := 221) hx hb dX5_isSame_207 (by decide) (by omega) (by omega) (fun c_207 => ?_) (fun c_207 => ?_)
                              · exact absurd hgp2.1 c_207
                              · refine lv_aload_n hx hb dX5_isSame_210 rfl (lv_at hl 8 rfl) ?_
                                refine lv_iload hx hb dX5_isSame_211 (lv_at hl 2 rfl) ?_
                                refine z_roV (w0 := [(h0, .inr (4, [.ref b0, .ref m0, .ref p0, .ref s0, .ref q0, .int (nI q), .int (nI sg), .int (nI rp), .int (nI lo), .int ea])), (p0, .inr (2, [.ref p1, .ref p2, .ref p3, .ref p4, .int (nI cnt)])), (p1, .inl (cI, 25, .inl (nA f))), (p2, .inl (cI, 24, .inl (nA lf))), (p3, .inl (cI, 24, .inl C)), (p4, .inl (cI, 24, .inl (nA ps)))]) (As := [.int (nI g)]) (rest := []) ⟨hx, hb, hml, hown, hts⟩ (c_X4_codeOf l D cI h0 b0 m0 p0 s0 q0 q sg (nI rp) (nI lo) ea p1 p2 p3 p4 f lf C ps cnt g (by first | assumption | omega) (fun j hj => by have := hst j hj; omega) (by first | assumption | omega)) (cwV 1 hts gX5_isSame_X4_codeOf rfl rfl rfl hd_X4_codeOf ⟨Nat.le_of_ble_eq_true rfl, Nat.le_of_ble_eq_true rfl⟩) ⟨hK, hE⟩ (fr_cons ((fr_old hP0 hS hA2) 0 _ rfl) (fr_cons ((fr_old hP0 hS hA2) 6 _ rfl) (fr_cons ((fr_old hP0 hS hA2) 7 _ rfl) (fr_cons ((fr_old hP0 hS hA2) 8 _ rfl) (fr_cons ((fr_old hP0 hS hA2) 9 _ rfl) (fr_cons ((fr_old hP0 hS hA2) 10 _ rfl) (va_P_nil _ _ _))))))) (va_recv hK (fr_old hP0 hS hA2) (ci := 4) (q0 := 0) rfl rfl) rfl hl.1 rfl (Nat.le_of_ble_eq_true rfl) dX5_isSame_213 (Nat.le_of_ble_eq_true rfl) (Nat.le_of_ble_eq_true rfl) ?_
                                refine lv_iload hx hb dX5_isSame_216 (lv_at hl 0 rfl) ?_
                                refine lv_icmp_eq (tgt := 223) hx hb dX5_isSame_218 (by decide) (fun c_218 => ?_) (fun c_218 => ?_)
                                · refine lv_iload hx hb dX5_isSame_223 (lv_at hl 0 rfl) ?_
                                  refine lv_if_lt (tgt := 237) hx hb dX5_isSame_225 (by decide) (fun c_225 => ?_) (fun c_225 => ?_)
                                  · refine lv_iload hx hb dX5_isSame_237 (lv_at hl 3 rfl) ?_
                                    refine lv_iload hx hb dX5_isSame_239 (lv_at hl 1 rfl) ?_
                                    refine z_iadd hx hb dX5_isSame_241 ?_
                                    refine lv_istore (lv' := [(5, .int (nI ((posN lf g) + (lf (posN lf g))))), (8, .int (C (ps g))), (7, .int (nI (lf (posN lf g)))), (6, .int (nI g)), (4, .ref us), (3, .int (nI cnt)), (2, .ref z_8), (0, .ref y0), (1, .ref h0)]) hx hb dX5_isSame_242 hl (by decide) rfl (fun ls hl => ?_)
                                    refine lv_iinc (v := nI (g + 1)) (lv' := [(6, .int (nI (g + 1))), (5, .int (nI ((posN lf g) + (lf (posN lf g))))), (8, .int (C (ps g))), (7, .int (nI (lf (posN lf g)))), (4, .ref us), (3, .int (nI cnt)), (2, .ref z_8), (0, .ref y0), (1, .ref h0)]) hx hb dX5_isSame_244 hl (k := 3) rfl (z_inc1 _) (by decide) rfl (fun ls hl => ?_)
                                    refine lv_goto (tgt := 165) hx hb dX5_isSame_247 (by decide) ?_
                                    exact ih_165 (g + 1) us9 (by omega) (by first | exact us_t hk hu c_225 | exact us_f hk hu hjc hjc2) (by omega) H locs ls hP hS (lv_sub hl [0, 1, 4, 5, 6, 7, 8] rfl)
                                  · obtain ⟨jc, hjc, hjc2⟩ : ∃ j, j < k ∧ C (ps g) = nI j := by
                                      rcases C_k hpart hk hL c_168 with h9 | ⟨j, a, b, -⟩
                                      · exact absurd h9.1 c_225
                                      · exact ⟨j, a, b⟩
                                    have hub : us9 jc ≤ 24 := by rw [hu jc hjc]; have h9 := cN_le (fun j => C (ps j) = nI jc) g; omega
                                    refine lv_aload hx hb dX5_isSame_228 (lv_at hl 4 rfl) ?_
                                    refine lv_iload hx hb dX5_isSame_230 (lv_at hl 0 rfl) ?_
                                    refine z_top (y := nI jc) hjc2 ?_
                                    refine lv_dup2_11 hx hb dX5_isSame_232 rfl rfl ?_
                                    refine z_ialdN hx hb hK hP 0 0 rfl rfl (by omega) (by omega) dX5_isSame_233 ?_
                                    refine lv_iconst (v := nI 1) hx hb dX5_isSame_234 ci_1 ?_
                                    refine z_iadd hx hb dX5_isSame_235 ?_
                                    refine z_iastN hx hb hK hP hD rfl hS 0 0 rfl rfl (by omega) (by omega) dX5_isSame_236 (fun H locs hP hS => ?_)
                                    have hP : va_P D vwCl [(us, .inl (cI, k, .inl (nA (updN us9 jc ((us9 jc) + 1))))), (zz, .inl (zQ D, 0, .inr (.inr (.inr (.inr (zrf R)))))), (z_8, .inl (zQ D, 2, .inr (.inr (.inr (.inr (zq2 ma_8 le_8)))))), (le_8, .inl (cI, n + 1, .inl (nA (lfz lf n)))), (ma_8, .inl (cI, n + 1, .inl (nA f)))] H := hP
                                    refine lv_iload hx hb dX5_isSame_237 (lv_at hl 3 rfl) ?_
                                    refine lv_iload hx hb dX5_isSame_239 (lv_at hl 1 rfl) ?_
                                    refine z_iadd hx hb dX5_isSame_241 ?_
                                    refine lv_istore (lv' := [(5, .int (nI ((posN lf g) + (lf (posN lf g))))), (8, .int (C (ps g))), (7, .int (nI (lf (posN lf g)))), (6, .int (nI g)), (4, .ref us), (3, .int (nI cnt)), (2, .ref z_8), (0, .ref y0), (1, .ref h0)]) hx hb dX5_isSame_242 hl (by decide) rfl (fun ls hl => ?_)
                                    refine lv_iinc (v := nI (g + 1)) (lv' := [(6, .int (nI (g + 1))), (5, .int (nI ((posN lf g) + (lf (posN lf g))))), (8, .int (C (ps g))), (7, .int (nI (lf (posN lf g)))), (4, .ref us), (3, .int (nI cnt)), (2, .ref z_8), (0, .ref y0), (1, .ref h0)]) hx hb dX5_isSame_244 hl (k := 3) rfl (z_inc1 _) (by decide) rfl (fun ls hl => ?_)
                                    refine lv_goto (tgt := 165) hx hb dX5_isSame_247 (by decide) ?_
                                    exact ih_165 (g + 1) (updN us9 jc ((us9 jc) + 1)) (by omega) (by first | exact us_t hk hu c_225 | exact us_f hk hu hjc hjc2) (by omega) H locs ls hP hS (lv_sub hl [0, 1, 4, 5, 6, 7, 8] rfl)
                                · exact absurd rfl c_218
                            · refine lv_iconst (v := -1) hx hb dX5_isSame_185 ci_m1 ?_
                              refine lv_goto (tgt := 197) hx hb dX5_isSame_186 (by decide) ?_
                              refine z_top (y := C (ps g)) (by rw [hgp2.1]; exact (C_1 hpart hk hL hgp2.2 c_182).symm) ?_
                              refine lv_istore (lv' := [(8, .int (C (ps g))), (7, .int (nI (lf (posN lf g)))), (6, .int (nI g)), (5, .int (nI (posN lf g))), (4, .ref us), (3, .int (nI cnt)), (2, .ref z_8), (0, .ref y0), (1, .ref h0)]) hx hb dX5_isSame_197 hl (by decide) rfl (fun ls hl => ?_)
                              refine lv_aload_n hx hb dX5_isSame_199 rfl (lv_at hl 8 rfl) ?_
                              refine lv_iload hx hb dX5_isSame_200 (lv_at hl 2 rfl) ?_
                              refine z_roV (w0 := [(h0, .inr (4, [.ref b0, .ref m0, .ref p0, .ref s0, .ref q0, .int (nI q), .int (nI sg), .int (nI rp), .int (nI lo), .int ea])), (p0, .inr (2, [.ref p1, .ref p2, .ref p3, .ref p4, .int (nI cnt)])), (p1, .inl (cI, 25, .inl (nA f))), (p2, .inl (cI, 24, .inl (nA lf))), (p3, .inl (cI, 24, .inl C)), (p4, .inl (cI, 24, .inl (nA ps)))]) (As := [.int (nI g)]) (rest := []) ⟨hx, hb, hml, hown, hts⟩ (c_X4_startOf l D cI h0 b0 m0 p0 s0 q0 q sg (nI rp) (nI lo) ea p1 p2 p3 p4 f lf C ps cnt g (by first | assumption | omega) (by first | assumption | omega)) (cwV 1 hts gX5_isSame_X4_startOf rfl rfl rfl hd_X4_startOf ⟨Nat.le_of_ble_eq_true rfl, Nat.le_of_ble_eq_true rfl⟩) ⟨hK, hE⟩ (fr_cons ((fr_old hP0 hS hA2) 0 _ rfl) (fr_cons ((fr_old hP0 hS hA2) 6 _ rfl) (fr_cons ((fr_old hP0 hS hA2) 7 _ rfl) (fr_cons ((fr_old hP0 hS hA2) 8 _ rfl) (fr_cons ((fr_old hP0 hS hA2) 9 _ rfl) (fr_cons ((fr_old hP0 hS hA2) 10 _ rfl) (va_P_nil _ _ _))))))) (va_recv hK (fr_old hP0 hS hA2) (ci := 4) (q0 := 0) rfl rfl) rfl hl.1 rfl (Nat.le_of_ble_eq_true rfl) dX5_isSame_202 (Nat.le_of_ble_eq_true rfl) (Nat.le_of_ble_eq_true rfl) ?_
                              refine lv_iload hx hb dX5_isSame_205 (lv_at hl 3 rfl) ?_
                              refine z_icmp_ne (tgt := 221) hx hb dX5_isSame_207 (by decide) (by omega) (by omega) (fun c_207 => ?_) (fun c_207 => ?_)
                              · exact absurd hgp2.1 c_207
                              · refine lv_aload_n hx hb dX5_isSame_210 rfl (lv_at hl 8 rfl) ?_
                                refine lv_iload hx hb dX5_isSame_211 (lv_at hl 2 rfl) ?_
                                refine z_roV (w0 := [(h0, .inr (4, [.ref b0, .ref m0, .ref p0, .ref s0, .ref q0, .int (nI q), .int (nI sg), .int (nI rp), .int (nI lo), .int ea])), (p0, .inr (2, [.ref p1, .ref p2, .ref p3, .ref p4, .int (nI cnt)])), (p1, .inl (cI, 25, .inl (nA f))), (p2, .inl (cI, 24, .inl (nA lf))), (p3, .inl (cI, 24, .inl C)), (p4, .inl (cI, 24, .inl (nA ps)))]) (As := [.int (nI g)]) (rest := []) ⟨hx, hb, hml, hown, hts⟩ (c_X4_codeOf l D cI h0 b0 m0 p0 s0 q0 q sg (nI rp) (nI lo) ea p1 p2 p3 p4 f lf C ps cnt g (by first | assumption | omega) (fun j hj => by have := hst j hj; omega) (by first | assumption | omega)) (cwV 1 hts gX5_isSame_X4_codeOf rfl rfl rfl hd_X4_codeOf ⟨Nat.le_of_ble_eq_true rfl, Nat.le_of_ble_eq_true rfl⟩) ⟨hK, hE⟩ (fr_cons ((fr_old hP0 hS hA2) 0 _ rfl) (fr_cons ((fr_old hP0 hS hA2) 6 _ rfl) (fr_cons ((fr_old hP0 hS hA2) 7 _ rfl) (fr_cons ((fr_old hP0 hS hA2) 8 _ rfl) (fr_cons ((fr_old hP0 hS hA2) 9 _ rfl) (fr_cons ((fr_old hP0 hS hA2) 10 _ rfl) (va_P_nil _ _ _))))))) (va_recv hK (fr_old hP0 hS hA2) (ci := 4) (q0 := 0) rfl rfl) rfl hl.1 rfl (Nat.le_of_ble_eq_true rfl) dX5_isSame_213 (Nat.le_of_ble_eq_true rfl) (Nat.le_of_ble_eq_true rfl) ?_
                                refine lv_iload hx hb dX5_isSame_216 (lv_at hl 0 rfl) ?_
                                refine lv_icmp_eq (tgt := 223) hx hb dX5_isSame_218 (by decide) (fun c_218 => ?_) (fun c_218 => ?_)
                                · refine lv_iload hx hb dX5_isSame_223 (lv_at hl 0 rfl) ?_
                                  refine lv_if_lt (tgt := 237) hx hb dX5_isSame_225 (by decide) (fun c_225 => ?_) (fun c_225 => ?_)
                                  · refine lv_iload hx hb dX5_isSame_237 (lv_at hl 3 rfl) ?_
                                    refine lv_iload hx hb dX5_isSame_239 (lv_at hl 1 rfl) ?_
                                    refine z_iadd hx hb dX5_isSame_241 ?_
                                    refine lv_istore (lv' := [(5, .int (nI ((posN lf g) + (lf (posN lf g))))), (8, .int (C (ps g))), (7, .int (nI (lf (posN lf g)))), (6, .int (nI g)), (4, .ref us), (3, .int (nI cnt)), (2, .ref z_8), (0, .ref y0), (1, .ref h0)]) hx hb dX5_isSame_242 hl (by decide) rfl (fun ls hl => ?_)
                                    refine lv_iinc (v := nI (g + 1)) (lv' := [(6, .int (nI (g + 1))), (5, .int (nI ((posN lf g) + (lf (posN lf g))))), (8, .int (C (ps g))), (7, .int (nI (lf (posN lf g)))), (4, .ref us), (3, .int (nI cnt)), (2, .ref z_8), (0, .ref y0), (1, .ref h0)]) hx hb dX5_isSame_244 hl (k := 3) rfl (z_inc1 _) (by decide) rfl (fun ls hl => ?_)
                                    refine lv_goto (tgt := 165) hx hb dX5_isSame_247 (by decide) ?_
                                    exact ih_165 (g + 1) us9 (by omega) (by first | exact us_t hk hu c_225 | exact us_f hk hu hjc hjc2) (by omega) H locs ls hP hS (lv_sub hl [0, 1, 4, 5, 6, 7, 8] rfl)
                                  · obtain ⟨jc, hjc, hjc2⟩ : ∃ j, j < k ∧ C (ps g) = nI j := by
                                      rcases C_k hpart hk hL c_168 with h9 | ⟨j, a, b, -⟩
                                      · exact absurd h9.1 c_225
                                      · exact ⟨j, a, b⟩
                                    have hub : us9 jc ≤ 24 := by rw [hu jc hjc]; have h9 := cN_le (fun j => C (ps j) = nI jc) g; omega
                                    refine lv_aload hx hb dX5_isSame_228 (lv_at hl 4 rfl) ?_
                                    refine lv_iload hx hb dX5_isSame_230 (lv_at hl 0 rfl) ?_
                                    refine z_top (y := nI jc) hjc2 ?_
                                    refine lv_dup2_11 hx hb dX5_isSame_232 rfl rfl ?_
                                    refine z_ialdN hx hb hK hP 0 0 rfl rfl (by omega) (by omega) dX5_isSame_233 ?_
                                    refine lv_iconst (v := nI 1) hx hb dX5_isSame_234 ci_1 ?_
                                    refine z_iadd hx hb dX5_isSame_235 ?_
                                    refine z_iastN hx hb hK hP hD rfl hS 0 0 rfl rfl (by omega) (by omega) dX5_isSame_236 (fun H locs hP hS => ?_)
                                    have hP : va_P D vwCl [(us, .inl (cI, k, .inl (nA (updN us9 jc ((us9 jc) + 1))))), (zz, .inl (zQ D, 0, .inr (.inr (.inr (.inr (zrf R)))))), (z_8, .inl (zQ D, 2, .inr (.inr (.inr (.inr (zq2 ma_8 le_8)))))), (le_8, .inl (cI, n + 1, .inl (nA (lfz lf n)))), (ma_8, .inl (cI, n + 1, .inl (nA f)))] H := hP
                                    refine lv_iload hx hb dX5_isSame_237 (lv_at hl 3 rfl) ?_
                                    refine lv_iload hx hb dX5_isSame_239 (lv_at hl 1 rfl) ?_
                                    refine z_iadd hx hb dX5_isSame_241 ?_
                                    refine lv_istore (lv' := [(5, .int (nI ((posN lf g) + (lf (posN lf g))))), (8, .int (C (ps g))), (7, .int (nI (lf (posN lf g)))), (6, .int (nI g)), (4, .ref us), (3, .int (nI cnt)), (2, .ref z_8), (0, .ref y0), (1, .ref h0)]) hx hb dX5_isSame_242 hl (by decide) rfl (fun ls hl => ?_)
                                    refine lv_iinc (v := nI (g + 1)) (lv' := [(6, .int (nI (g + 1))), (5, .int (nI ((posN lf g) + (lf (posN lf g))))), (8, .int (C (ps g))), (7, .int (nI (lf (posN lf g)))), (4, .ref us), (3, .int (nI cnt)), (2, .ref z_8), (0, .ref y0), (1, .ref h0)]) hx hb dX5_isSame_244 hl (k := 3) rfl (z_inc1 _) (by decide) rfl (fun ls hl => ?_)
                                    refine lv_goto (tgt := 165) hx hb dX5_isSame_247 (by decide) ?_
                                    exact ih_165 (g + 1) (updN us9 jc ((us9 jc) + 1)) (by omega) (by first | exact us_t hk hu c_225 | exact us_f hk hu hjc hjc2) (by omega) H locs ls hP hS (lv_sub hl [0, 1, 4, 5, 6, 7, 8] rfl)
                                · exact absurd rfl c_218
                      exact lp_165 ((cnt - 0) + 1) 0 (fun _ => 0) (Nat.zero_le _) (fun _ _ => rfl) (Nat.lt_succ_self _) H locs ls hP hS hl
                    · exact absurd rfl c_145
