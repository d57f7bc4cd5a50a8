theorem hd_X4_shorten : yX4_shorten.cls = RX4 ∧ yX4_shorten.cls ≠ "java/lang/invoke/MethodHandle" ∧ yX4_shorten.cls ≠ "java/lang/invoke/VarHandle" ∧ (parseMethodDescriptor yX4_shorten.desc).map (fun d => d.parameters.length) = some 0 := by decide +kernel
theorem hd_X4_wouldBeGarbled : yX4_wouldBeGarbled.cls = RX4 ∧ yX4_wouldBeGarbled.cls ≠ "java/lang/invoke/MethodHandle" ∧ yX4_wouldBeGarbled.cls ≠ "java/lang/invoke/VarHandle" ∧ (parseMethodDescriptor yX4_wouldBeGarbled.desc).map (fun d => d.parameters.length) = some 0 := by decide +kernel
theorem hd_X4_repeatsIfSent : yX4_repeatsIfSent.cls = RX4 ∧ yX4_repeatsIfSent.cls ≠ "java/lang/invoke/MethodHandle" ∧ yX4_repeatsIfSent.cls ≠ "java/lang/invoke/VarHandle" ∧ (parseMethodDescriptor yX4_repeatsIfSent.desc).map (fun d => d.parameters.length) = some 0 := by decide +kernel
theorem hd_X4_qualityWanted : yX4_qualityWanted.cls = RX4 ∧ yX4_qualityWanted.cls ≠ "java/lang/invoke/MethodHandle" ∧ yX4_qualityWanted.cls ≠ "java/lang/invoke/VarHandle" ∧ (parseMethodDescriptor yX4_qualityWanted.desc).map (fun d => d.parameters.length) = some 0 := by decide +kernel
theorem hd_X4_uselessCode : yX4_uselessCode.cls = RX4 ∧ yX4_uselessCode.cls ≠ "java/lang/invoke/MethodHandle" ∧ yX4_uselessCode.cls ≠ "java/lang/invoke/VarHandle" ∧ (parseMethodDescriptor yX4_uselessCode.desc).map (fun d => d.parameters.length) = some 0 := by decide +kernel
theorem hd_X4_bestStart : yX4_bestStart.cls = RX4 ∧ yX4_bestStart.cls ≠ "java/lang/invoke/MethodHandle" ∧ yX4_bestStart.cls ≠ "java/lang/invoke/VarHandle" ∧ (parseMethodDescriptor yX4_bestStart.desc).map (fun d => d.parameters.length) = some 1 := by decide +kernel
abbrev rm_X4_shorten : Room := { frames := 5, cells := 0, slots := 0, locals := 118 }
abbrev rm_X4_wouldBeGarbled : Room := { frames := 4, cells := 0, slots := 0, locals := 89 }
abbrev rm_X4_repeatsIfSent : Room := { frames := 4, cells := 0, slots := 0, locals := 89 }
abbrev rm_X4_qualityWanted : Room := { frames := 4, cells := 0, slots := 0, locals := 89 }
abbrev rm_X4_uselessCode : Room := { frames := 5, cells := 0, slots := 0, locals := 119 }
abbrev rm_X4_bestStart : Room := { frames := 5, cells := 0, slots := 0, locals := 120 }
set_option maxHeartbeats 4000000 in
set_option maxRecDepth 100000 in
theorem c_X4_shorten (l : Launch) (D : va_G) (cI : ClassId) (h0 : Nat) (b0 : Nat) (m0 : Nat) (p0 : Nat) (s0 : Nat) (q0 : Nat) (q : Nat) (sg : Nat) (rp : Int32) (lo : Int32) (ea : Int32) (p1 : Nat) (p2 : Nat) (p3 : Nat) (p4 : Nat) (f : Nat → Nat) (lf : Nat → Nat) (C : Nat → Int32) (ps : Nat → Nat) (cnt : Nat) (m1 : Nat) (t : Nat → Nat) (n : Nat) (b1 : Nat) (b2 : Nat) (T : Nat → Int32) (Lf : Nat → Nat) (k : Nat) (hn : n ≤ 24) (hk : k ≤ 8) (hL : ∀ c, c < k → 2 ≤ Lf c ∧ Lf c ≤ 4) : MU l yX4_shorten wsX4_shorten rm_X4_shorten D cI [(h0, .inr (4, [.ref b0, .ref m0, .ref p0, .ref s0, .ref q0, .int (nI q), .int (nI sg), .int rp, .int lo, .int ea])), (p0, .inr (2, [.ref p1, .ref p2, .ref p3, .ref p4, .int (nI cnt)])), (p1, .inl (cI, 25, .inl (nA f))), (p2, .inl (cI, 24, .inl (nA lf))), (p3, .inl (cI, 24, .inl C)), (p4, .inl (cI, 24, .inl (nA ps))), (m0, .inr (1, [.ref m1, .int (nI n)])), (m1, .inl (cI, 24, .inl (nA t))), (b0, .inr (0, [.ref b1, .ref b2, .int (nI k)])), (b1, .inl (cI, 32, .inl T)), (b2, .inl (cI, 8, .inl (nA Lf)))] [.ref h0] (fun (v9 : Option Value) (u9 : (Nat → Nat) × (Nat → Nat) × (Nat → Int32) × (Nat → Nat) × Nat) => v9 = none ∧ (PartC t n T Lf k (-1) 0 0 u9.1 u9.2.1 u9.2.2.1 u9.2.2.2.1 u9.2.2.2.2)) (fun (u9 : (Nat → Nat) × (Nat → Nat) × (Nat → Int32) × (Nat → Nat) × Nat) => [(h0, .inr (4, [.ref b0, .ref m0, .ref p0, .ref s0, .ref q0, .int (nI q), .int (nI sg), .int rp, .int lo, .int ea])), (p0, .inr (2, [.ref p1, .ref p2, .ref p3, .ref p4, .int (nI u9.2.2.2.2)])), (p1, .inl (cI, 25, .inl (nA u9.1))), (p2, .inl (cI, 24, .inl (nA u9.2.1))), (p3, .inl (cI, 24, .inl u9.2.2.1)), (p4, .inl (cI, 24, .inl (nA u9.2.2.2.1))), (m0, .inr (1, [.ref m1, .int (nI n)])), (m1, .inl (cI, 24, .inl (nA t))), (b0, .inr (0, [.ref b1, .ref b2, .int (nI k)])), (b1, .inl (cI, 32, .inl T)), (b2, .inl (cI, 8, .inl (nA Lf)))]) := by
  refine mu_of (C := RX4) (cc := cX4_shorten) (maxL := 1) (ret := none) rfl (by decide) rfl (Nat.le_of_ble_eq_true rfl) ?_
  intro pg ev sv mi ag bl mt cd ls Q A hA hQ hx hb hr hlocks hml hts hown hK hE hD H locs hP hS hl
  have hD : zDD A [h0, p0, p1, p2, p3, p4, m0, m1, b0, b1, b2] := hD
  have hl : lv_has ls 1 [(0, .ref h0)] := hl
  have f_26 := hts (.fieldLink RX4 26 "TelegraphDesk" "parting" "LTelegraphDesk$Parting;") (by decide +kernel)
  have f_19 := hts (.fieldLink RX4 19 "TelegraphDesk" "message" "LTelegraphDesk$Message;") (by decide +kernel)
  have f_10 := hts (.fieldLink RX4 10 "TelegraphDesk" "book" "LTelegraphDesk$CodeBook;") (by decide +kernel)
  have hi_4 : ∀ w ∈ wsX40, w ∈ wsX4_shorten := by decide +kernel
  refine lv_aload_n hx hb dX4_shorten_0 rfl (lv_at hl 0 rfl) ?_
  refine va_get (v := .ref p0) hx hb hts hi_4 hown hK hP 0 rfl rfl 2 (by decide) f_26 (fun _ h => h) rfl dX4_shorten_1 ?_
  refine lv_aload_n hx hb dX4_shorten_4 rfl (lv_at hl 0 rfl) ?_
  refine va_get (v := .ref m0) hx hb hts hi_4 hown hK hP 0 rfl rfl 1 (by decide) f_19 (fun _ h => h) rfl dX4_shorten_5 ?_
  refine lv_aload_n hx hb dX4_shorten_8 rfl (lv_at hl 0 rfl) ?_
  refine va_get (v := .ref b0) hx hb hts hi_4 hown hK hP 0 rfl rfl 0 (by decide) f_10 (fun _ h => h) rfl dX4_shorten_9 ?_
  refine z_muV (As := [.ref m0, .ref b0]) (rest := []) ⟨hx, hb, hml, hown, hts⟩ (c_X2_partAsIs l D cI p0 p1 p2 p3 p4 m0 m1 b0 b1 b2 f lf C ps cnt t n T Lf k (by first | assumption | omega) (by first | assumption | omega) (by first | assumption | omega)) (cwV 2 hts gX4_shorten_X2_partAsIs rfl rfl rfl hd_X2_partAsIs ⟨Nat.le_of_ble_eq_true rfl, Nat.le_of_ble_eq_true rfl⟩) ⟨hK, hE⟩ hP hD rfl hS [1, 2, 3, 4, 5, 6, 7, 8, 9, 10] (by decide) rfl (fun _ => rfl) (va_recv hK hP (ci := 2) (q0 := 1) rfl rfl) rfl hl.1 rfl (Nat.le_of_ble_eq_true rfl) dX4_shorten_12 (Nat.zero_le _) (Nat.zero_le _) (fun v9 u9 H locs hp hP hS => ?_)
  obtain ⟨f2_12, lf2_12, C2_12, ps2_12, cnt2_12⟩ := u9
  obtain ⟨rfl, hpart_12⟩ := hp
  try dsimp only at hpart_12
  have hP : va_P D vwCl [(h0, .inr (4, [.ref b0, .ref m0, .ref p0, .ref s0, .ref q0, .int (nI q), .int (nI sg), .int rp, .int lo, .int ea])), (p0, .inr (2, [.ref p1, .ref p2, .ref p3, .ref p4, .int (nI cnt2_12)])), (p1, .inl (cI, 25, .inl (nA f2_12))), (p2, .inl (cI, 24, .inl (nA lf2_12))), (p3, .inl (cI, 24, .inl C2_12)), (p4, .inl (cI, 24, .inl (nA ps2_12))), (m0, .inr (1, [.ref m1, .int (nI n)])), (m1, .inl (cI, 24, .inl (nA t))), (b0, .inr (0, [.ref b1, .ref b2, .int (nI k)])), (b1, .inl (cI, 32, .inl T)), (b2, .inl (cI, 8, .inl (nA Lf)))] H := hP
  refine W.eq (g2 := F0 mi 15 ls []) rfl ?_
  exact mu_vret hA hQ hx hb hr hlocks (f2_12, lf2_12, C2_12, ps2_12, cnt2_12) hP hS ⟨rfl, hpart_12⟩ dX4_shorten_15
set_option maxHeartbeats 4000000 in
set_option maxRecDepth 100000 in
theorem c_X4_wouldBeGarbled (l : Launch) (D : va_G) (cI : ClassId) (h0 : Nat) (b0 : Nat) (m0 : Nat) (p0 : Nat) (s0 : Nat) (q0 : Nat) (q : Nat) (sg : Nat) (rp : Int32) (lo : Int32) (ea : Int32) (p1 : Nat) (p2 : Nat) (p3 : Nat) (p4 : Nat) (cnt : Nat) (se : Nat) (gf : Nat) (ak : Nat) (gn : Nat) (hq : q ≤ 9) (hsg : sg ≤ 60000) (hcnt : cnt ≤ 24) : MU l yX4_wouldBeGarbled wsX4_wouldBeGarbled rm_X4_wouldBeGarbled D cI [(h0, .inr (4, [.ref b0, .ref m0, .ref p0, .ref s0, .ref q0, .int (nI q), .int (nI sg), .int rp, .int lo, .int ea])), (p0, .inr (2, [.ref p1, .ref p2, .ref p3, .ref p4, .int (nI cnt)])), (q0, .inr (3, [.int (nI se), .int (nI gf), .int (nI ak), .int (nI gn)]))] [.ref h0] (fun (v9 : Option Value) (u9 : Unit) => v9 = some (.int (nI (gfN q sg cnt)))) (fun (u9 : Unit) => [(h0, .inr (4, [.ref b0, .ref m0, .ref p0, .ref s0, .ref q0, .int (nI q), .int (nI sg), .int rp, .int lo, .int ea])), (p0, .inr (2, [.ref p1, .ref p2, .ref p3, .ref p4, .int (nI cnt)])), (q0, .inr (3, [.int (nI (seN q sg cnt)), .int (nI (gfN q sg cnt)), .int (nI (akN q sg cnt)), .int (nI (gnN q sg cnt))]))]) := by
  refine mu_of (C := RX4) (cc := cX4_wouldBeGarbled) (maxL := 1) (ret := (some .int)) rfl (by decide) rfl (Nat.le_of_ble_eq_true rfl) ?_
  intro pg ev sv mi ag bl mt cd ls Q A hA hQ hx hb hr hlocks hml hts hown hK hE hD H locs hP hS hl
  have hD : zDD A [h0, p0, q0] := hD
  have hl : lv_has ls 1 [(0, .ref h0)] := hl
  have f_36 := hts (.fieldLink RX4 36 "TelegraphDesk" "passage" "LTelegraphDesk$Passage;") (by decide +kernel)
  have f_26 := hts (.fieldLink RX4 26 "TelegraphDesk" "parting" "LTelegraphDesk$Parting;") (by decide +kernel)
  have f_159 := hts (.fieldLink RX4 159 "TelegraphDesk" "sentGroups" "I") (by decide +kernel)
  have f_40 := hts (.fieldLink RX4 40 "TelegraphDesk" "quality" "I") (by decide +kernel)
  have hi_4 : ∀ w ∈ wsX40, w ∈ wsX4_wouldBeGarbled := by decide +kernel
  refine lv_aload_n hx hb dX4_wouldBeGarbled_0 rfl (lv_at hl 0 rfl) ?_
  refine va_get (v := .ref q0) hx hb hts hi_4 hown hK hP 0 rfl rfl 4 (by decide) f_36 (fun _ h => h) rfl dX4_wouldBeGarbled_1 ?_
  refine lv_aload_n hx hb dX4_wouldBeGarbled_4 rfl (lv_at hl 0 rfl) ?_
  refine va_get (v := .ref p0) hx hb hts hi_4 hown hK hP 0 rfl rfl 2 (by decide) f_26 (fun _ h => h) rfl dX4_wouldBeGarbled_5 ?_
  refine z_roV (As := []) (rest := [.ref q0]) ⟨hx, hb, hml, hown, hts⟩ (c_X2_size l D cI p0 p1 p2 p3 p4 cnt) (cwV 0 hts gX4_wouldBeGarbled_X2_size rfl rfl rfl hd_X2_size ⟨Nat.le_of_ble_eq_true rfl, Nat.le_of_ble_eq_true rfl⟩) ⟨hK, hE⟩ (hP.sub (ws' := [(p0, .inr (2, [.ref p1, .ref p2, .ref p3, .ref p4, .int (nI cnt)]))]) [1] rfl) (va_recv hK hP (ci := 2) (q0 := 1) rfl rfl) rfl hl.1 rfl (Nat.le_of_ble_eq_true rfl) dX4_wouldBeGarbled_8 (Nat.zero_le _) (Nat.zero_le _) ?_
  refine lv_aload_n hx hb dX4_wouldBeGarbled_11 rfl (lv_at hl 0 rfl) ?_
  refine va_get (v := .int (nI sg)) hx hb hts hi_4 hown hK hP 0 rfl rfl 6 (by decide) f_159 (fun _ h => h) rfl dX4_wouldBeGarbled_12 ?_
  refine lv_aload_n hx hb dX4_wouldBeGarbled_15 rfl (lv_at hl 0 rfl) ?_
  refine va_get (v := .int (nI q)) hx hb hts hi_4 hown hK hP 0 rfl rfl 5 (by decide) f_40 (fun _ h => h) rfl dX4_wouldBeGarbled_16 ?_
  refine z_muV (As := [.int (nI cnt), .int (nI sg), .int (nI q)]) (rest := []) ⟨hx, hb, hml, hown, hts⟩ (c_X3_run l D cI q0 se gf ak gn cnt sg q (by first | assumption | omega) (by first | assumption | omega) (by first | assumption | omega)) (cwV 3 hts gX4_wouldBeGarbled_X3_run rfl rfl rfl hd_X3_run ⟨Nat.le_of_ble_eq_true rfl, Nat.le_of_ble_eq_true rfl⟩) ⟨hK, hE⟩ hP hD rfl hS [2] (by decide) rfl (fun _ => rfl) (va_recv hK hP (ci := 3) (q0 := 2) rfl rfl) rfl hl.1 rfl (Nat.le_of_ble_eq_true rfl) dX4_wouldBeGarbled_19 (Nat.zero_le _) (Nat.zero_le _) (fun v9 u9 H locs hp hP hS => ?_)
  obtain rfl := hp
  have hP : va_P D vwCl [(h0, .inr (4, [.ref b0, .ref m0, .ref p0, .ref s0, .ref q0, .int (nI q), .int (nI sg), .int rp, .int lo, .int ea])), (p0, .inr (2, [.ref p1, .ref p2, .ref p3, .ref p4, .int (nI cnt)])), (q0, .inr (3, [.int (nI (seN q sg cnt)), .int (nI (gfN q sg cnt)), .int (nI (akN q sg cnt)), .int (nI (gnN q sg cnt))]))] H := hP
  refine W.eq (g2 := F0 mi 22 ls []) rfl ?_
  refine lv_aload_n hx hb dX4_wouldBeGarbled_22 rfl (lv_at hl 0 rfl) ?_
  refine va_get (v := .ref q0) hx hb hts hi_4 hown hK hP 0 rfl rfl 4 (by decide) f_36 (fun _ h => h) rfl dX4_wouldBeGarbled_23 ?_
  refine z_roV (As := []) (rest := []) ⟨hx, hb, hml, hown, hts⟩ (c_X3_garbledAtFirst l D cI q0 (seN q sg cnt) (gfN q sg cnt) (akN q sg cnt) (gnN q sg cnt)) (cwV 0 hts gX4_wouldBeGarbled_X3_garbledAtFirst rfl rfl rfl hd_X3_garbledAtFirst ⟨Nat.le_of_ble_eq_true rfl, Nat.le_of_ble_eq_true rfl⟩) ⟨hK, hE⟩ (hP.sub (ws' := [(q0, .inr (3, [.int (nI (seN q sg cnt)), .int (nI (gfN q sg cnt)), .int (nI (akN q sg cnt)), .int (nI (gnN q sg cnt))]))]) [2] rfl) (va_recv hK hP (ci := 3) (q0 := 2) rfl rfl) rfl hl.1 rfl (Nat.le_of_ble_eq_true rfl) dX4_wouldBeGarbled_26 (Nat.zero_le _) (Nat.zero_le _) ?_
  exact mu_iret hA hQ hx hb hr hlocks () hP hS rfl dX4_wouldBeGarbled_29
set_option maxHeartbeats 4000000 in
set_option maxRecDepth 100000 in
theorem c_X4_repeatsIfSent (l : Launch) (D : va_G) (cI : ClassId) (h0 : Nat) (b0 : Nat) (m0 : Nat) (p0 : Nat) (s0 : Nat) (q0 : Nat) (q : Nat) (sg : Nat) (rp : Int32) (lo : Int32) (ea : Int32) (p1 : Nat) (p2 : Nat) (p3 : Nat) (p4 : Nat) (cnt : Nat) (se : Nat) (gf : Nat) (ak : Nat) (gn : Nat) (hq : q ≤ 9) (hsg : sg ≤ 60000) (hcnt : cnt ≤ 24) : MU l yX4_repeatsIfSent wsX4_repeatsIfSent rm_X4_repeatsIfSent D cI [(h0, .inr (4, [.ref b0, .ref m0, .ref p0, .ref s0, .ref q0, .int (nI q), .int (nI sg), .int rp, .int lo, .int ea])), (p0, .inr (2, [.ref p1, .ref p2, .ref p3, .ref p4, .int (nI cnt)])), (q0, .inr (3, [.int (nI se), .int (nI gf), .int (nI ak), .int (nI gn)]))] [.ref h0] (fun (v9 : Option Value) (u9 : Unit) => v9 = some (.int (nI (akN q sg cnt)))) (fun (u9 : Unit) => [(h0, .inr (4, [.ref b0, .ref m0, .ref p0, .ref s0, .ref q0, .int (nI q), .int (nI sg), .int rp, .int lo, .int ea])), (p0, .inr (2, [.ref p1, .ref p2, .ref p3, .ref p4, .int (nI cnt)])), (q0, .inr (3, [.int (nI (seN q sg cnt)), .int (nI (gfN q sg cnt)), .int (nI (akN q sg cnt)), .int (nI (gnN q sg cnt))]))]) := by
  refine mu_of (C := RX4) (cc := cX4_repeatsIfSent) (maxL := 1) (ret := (some .int)) rfl (by decide) rfl (Nat.le_of_ble_eq_true rfl) ?_
  intro pg ev sv mi ag bl mt cd ls Q A hA hQ hx hb hr hlocks hml hts hown hK hE hD H locs hP hS hl
  have hD : zDD A [h0, p0, q0] := hD
  have hl : lv_has ls 1 [(0, .ref h0)] := hl
  have f_36 := hts (.fieldLink RX4 36 "TelegraphDesk" "passage" "LTelegraphDesk$Passage;") (by decide +kernel)
  have f_26 := hts (.fieldLink RX4 26 "TelegraphDesk" "parting" "LTelegraphDesk$Parting;") (by decide +kernel)
  have f_159 := hts (.fieldLink RX4 159 "TelegraphDesk" "sentGroups" "I") (by decide +kernel)
  have f_40 := hts (.fieldLink RX4 40 "TelegraphDesk" "quality" "I") (by decide +kernel)
  have hi_4 : ∀ w ∈ wsX40, w ∈ wsX4_repeatsIfSent := by decide +kernel
  refine lv_aload_n hx hb dX4_repeatsIfSent_0 rfl (lv_at hl 0 rfl) ?_
  refine va_get (v := .ref q0) hx hb hts hi_4 hown hK hP 0 rfl rfl 4 (by decide) f_36 (fun _ h => h) rfl dX4_repeatsIfSent_1 ?_
  refine lv_aload_n hx hb dX4_repeatsIfSent_4 rfl (lv_at hl 0 rfl) ?_
  refine va_get (v := .ref p0) hx hb hts hi_4 hown hK hP 0 rfl rfl 2 (by decide) f_26 (fun _ h => h) rfl dX4_repeatsIfSent_5 ?_
  refine z_roV (As := []) (rest := [.ref q0]) ⟨hx, hb, hml, hown, hts⟩ (c_X2_size l D cI p0 p1 p2 p3 p4 cnt) (cwV 0 hts gX4_repeatsIfSent_X2_size rfl rfl rfl hd_X2_size ⟨Nat.le_of_ble_eq_true rfl, Nat.le_of_ble_eq_true rfl⟩) ⟨hK, hE⟩ (hP.sub (ws' := [(p0, .inr (2, [.ref p1, .ref p2, .ref p3, .ref p4, .int (nI cnt)]))]) [1] rfl) (va_recv hK hP (ci := 2) (q0 := 1) rfl rfl) rfl hl.1 rfl (Nat.le_of_ble_eq_true rfl) dX4_repeatsIfSent_8 (Nat.zero_le _) (Nat.zero_le _) ?_
  refine lv_aload_n hx hb dX4_repeatsIfSent_11 rfl (lv_at hl 0 rfl) ?_
  refine va_get (v := .int (nI sg)) hx hb hts hi_4 hown hK hP 0 rfl rfl 6 (by decide) f_159 (fun _ h => h) rfl dX4_repeatsIfSent_12 ?_
  refine lv_aload_n hx hb dX4_repeatsIfSent_15 rfl (lv_at hl 0 rfl) ?_
  refine va_get (v := .int (nI q)) hx hb hts hi_4 hown hK hP 0 rfl rfl 5 (by decide) f_40 (fun _ h => h) rfl dX4_repeatsIfSent_16 ?_
  refine z_muV (As := [.int (nI cnt), .int (nI sg), .int (nI q)]) (rest := []) ⟨hx, hb, hml, hown, hts⟩ (c_X3_run l D cI q0 se gf ak gn cnt sg q (by first | assumption | omega) (by first | assumption | omega) (by first | assumption | omega)) (cwV 3 hts gX4_repeatsIfSent_X3_run rfl rfl rfl hd_X3_run ⟨Nat.le_of_ble_eq_true rfl, Nat.le_of_ble_eq_true rfl⟩) ⟨hK, hE⟩ hP hD rfl hS [2] (by decide) rfl (fun _ => rfl) (va_recv hK hP (ci := 3) (q0 := 2) rfl rfl) rfl hl.1 rfl (Nat.le_of_ble_eq_true rfl) dX4_repeatsIfSent_19 (Nat.zero_le _) (Nat.zero_le _) (fun v9 u9 H locs hp hP hS => ?_)
  obtain rfl := hp
  have hP : va_P D vwCl [(h0, .inr (4, [.ref b0, .ref m0, .ref p0, .ref s0, .ref q0, .int (nI q), .int (nI sg), .int rp, .int lo, .int ea])), (p0, .inr (2, [.ref p1, .ref p2, .ref p3, .ref p4, .int (nI cnt)])), (q0, .inr (3, [.int (nI (seN q sg cnt)), .int (nI (gfN q sg cnt)), .int (nI (akN q sg cnt)), .int (nI (gnN q sg cnt))]))] H := hP
  refine W.eq (g2 := F0 mi 22 ls []) rfl ?_
  refine lv_aload_n hx hb dX4_repeatsIfSent_22 rfl (lv_at hl 0 rfl) ?_
  refine va_get (v := .ref q0) hx hb hts hi_4 hown hK hP 0 rfl rfl 4 (by decide) f_36 (fun _ h => h) rfl dX4_repeatsIfSent_23 ?_
  refine z_roV (As := []) (rest := []) ⟨hx, hb, hml, hown, hts⟩ (c_X3_repeatsAsked l D cI q0 (seN q sg cnt) (gfN q sg cnt) (akN q sg cnt) (gnN q sg cnt)) (cwV 0 hts gX4_repeatsIfSent_X3_repeatsAsked rfl rfl rfl hd_X3_repeatsAsked ⟨Nat.le_of_ble_eq_true rfl, Nat.le_of_ble_eq_true rfl⟩) ⟨hK, hE⟩ (hP.sub (ws' := [(q0, .inr (3, [.int (nI (seN q sg cnt)), .int (nI (gfN q sg cnt)), .int (nI (akN q sg cnt)), .int (nI (gnN q sg cnt))]))]) [2] rfl) (va_recv hK hP (ci := 3) (q0 := 2) rfl rfl) rfl hl.1 rfl (Nat.le_of_ble_eq_true rfl) dX4_repeatsIfSent_26 (Nat.zero_le _) (Nat.zero_le _) ?_
  exact mu_iret hA hQ hx hb hr hlocks () hP hS rfl dX4_repeatsIfSent_29
set_option maxHeartbeats 4000000 in
set_option maxRecDepth 100000 in
theorem c_X4_qualityWanted (l : Launch) (D : va_G) (cI : ClassId) (h0 : Nat) (b0 : Nat) (m0 : Nat) (p0 : Nat) (s0 : Nat) (q0 : Nat) (q : Nat) (sg : Nat) (rp : Int32) (lo : Int32) (ea : Int32) (p1 : Nat) (p2 : Nat) (p3 : Nat) (p4 : Nat) (cnt : Nat) (se : Nat) (gf : Nat) (ak : Nat) (gn : Nat) (hsg : sg ≤ 60000) (hcnt : cnt ≤ 24) : MU l yX4_qualityWanted wsX4_qualityWanted rm_X4_qualityWanted D cI [(h0, .inr (4, [.ref b0, .ref m0, .ref p0, .ref s0, .ref q0, .int (nI q), .int (nI sg), .int rp, .int lo, .int ea])), (p0, .inr (2, [.ref p1, .ref p2, .ref p3, .ref p4, .int (nI cnt)])), (q0, .inr (3, [.int (nI se), .int (nI gf), .int (nI ak), .int (nI gn)]))] [.ref h0] (fun (v9 : Option Value) (u9 : Nat × Nat × Nat × Nat) => v9 = some (.int (qwF sg cnt 9 1))) (fun (u9 : Nat × Nat × Nat × Nat) => [(h0, .inr (4, [.ref b0, .ref m0, .ref p0, .ref s0, .ref q0, .int (nI q), .int (nI sg), .int rp, .int lo, .int ea])), (p0, .inr (2, [.ref p1, .ref p2, .ref p3, .ref p4, .int (nI cnt)])), (q0, .inr (3, [.int (nI u9.1), .int (nI u9.2.1), .int (nI u9.2.2.1), .int (nI u9.2.2.2)]))]) := by
  refine mu_of (C := RX4) (cc := cX4_qualityWanted) (maxL := 2) (ret := (some .int)) rfl (by decide) rfl (Nat.le_of_ble_eq_true rfl) ?_
  intro pg ev sv mi ag bl mt cd ls Q A hA hQ hx hb hr hlocks hml hts hown hK hE hD H locs hP hS hl
  have hD : zDD A [h0, p0, q0] := hD
  have hl : lv_has ls 2 [(0, .ref h0)] := hl
  have f_36 := hts (.fieldLink RX4 36 "TelegraphDesk" "passage" "LTelegraphDesk$Passage;") (by decide +kernel)
  have f_26 := hts (.fieldLink RX4 26 "TelegraphDesk" "parting" "LTelegraphDesk$Parting;") (by decide +kernel)
  have f_159 := hts (.fieldLink RX4 159 "TelegraphDesk" "sentGroups" "I") (by decide +kernel)
  have hi_4 : ∀ w ∈ wsX40, w ∈ wsX4_qualityWanted := by decide +kernel
  refine lv_iconst (v := nI 1) hx hb dX4_qualityWanted_0 ci_1 ?_
  refine lv_istore_n (lv' := [(1, .int (nI 1)), (0, .ref h0)]) hx hb dX4_qualityWanted_1 rfl hl (by decide) rfl (fun ls hl => ?_)
  have lp_2 : ∀ (Nf : Nat) (w : Nat) (se1 : Nat) (gf1 : Nat) (ak1 : Nat) (gn1 : Nat) (hw : 1 ≤ w ∧ w ≤ 10) (heq : qwF sg cnt 9 1 = qwF sg cnt (10 - w) w) (hN : 11 - w < Nf) (H : Heap) (locs : List Loc) (ls : Array Slot), va_P D vwCl [(h0, .inr (4, [.ref b0, .ref m0, .ref p0, .ref s0, .ref q0, .int (nI q), .int (nI sg), .int rp, .int lo, .int ea])), (p0, .inr (2, [.ref p1, .ref p2, .ref p3, .ref p4, .int (nI cnt)])), (q0, .inr (3, [.int (nI se1), .int (nI gf1), .int (nI ak1), .int (nI gn1)]))] H → va_S A sv.heap H locs → lv_has ls 2 [(1, .int (nI w)), (0, .ref h0)] → W pg l ev rm_X4_qualityWanted sv mi ag bl mt cd H locs 0 0 Q (F0 mi 2 ls []) := by
    intro Nf
    induction Nf with
    | zero =>
      intro w se1 gf1 ak1 gn1 hw heq hN
      exact absurd hN (Nat.not_lt_zero _)
    | succ Nf ih_2 =>
      intro w se1 gf1 ak1 gn1 hw heq hN H locs ls hP hS hl
      refine lv_iload_n hx hb dX4_qualityWanted_2 rfl (lv_at hl 0 rfl) ?_
      refine z_bipush (n := 9) hx hb rfl (by decide) dX4_qualityWanted_3 ?_
      refine z_icmp_gt (tgt := 45) hx hb dX4_qualityWanted_5 (by decide) (by omega) (by omega) (fun c_5 => ?_) (fun c_5 => ?_)
      · refine lv_iconst (v := -1) hx hb dX4_qualityWanted_45 ci_m1 ?_
        exact mu_iret hA hQ hx hb hr hlocks (se1, gf1, ak1, gn1) hP hS (by rw [heq, show w = 10 by omega]; rfl) dX4_qualityWanted_46
      · refine lv_aload_n hx hb dX4_qualityWanted_8 rfl (lv_at hl 1 rfl) ?_
        refine va_get (v := .ref q0) hx hb hts hi_4 hown hK hP 0 rfl rfl 4 (by decide) f_36 (fun _ h => h) rfl dX4_qualityWanted_9 ?_
        refine lv_aload_n hx hb dX4_qualityWanted_12 rfl (lv_at hl 1 rfl) ?_
        refine va_get (v := .ref p0) hx hb hts hi_4 hown hK hP 0 rfl rfl 2 (by decide) f_26 (fun _ h => h) rfl dX4_qualityWanted_13 ?_
        refine z_roV (As := []) (rest := [.ref q0]) ⟨hx, hb, hml, hown, hts⟩ (c_X2_size l D cI p0 p1 p2 p3 p4 cnt) (cwV 0 hts gX4_qualityWanted_X2_size rfl rfl rfl hd_X2_size ⟨Nat.le_of_ble_eq_true rfl, Nat.le_of_ble_eq_true rfl⟩) ⟨hK, hE⟩ (hP.sub (ws' := [(p0, .inr (2, [.ref p1, .ref p2, .ref p3, .ref p4, .int (nI cnt)]))]) [1] rfl) (va_recv hK hP (ci := 2) (q0 := 1) rfl rfl) rfl hl.1 rfl (Nat.le_of_ble_eq_true rfl) dX4_qualityWanted_16 (Nat.zero_le _) (Nat.zero_le _) ?_
        refine lv_aload_n hx hb dX4_qualityWanted_19 rfl (lv_at hl 1 rfl) ?_
        refine va_get (v := .int (nI sg)) hx hb hts hi_4 hown hK hP 0 rfl rfl 6 (by decide) f_159 (fun _ h => h) rfl dX4_qualityWanted_20 ?_
        refine lv_iload_n hx hb dX4_qualityWanted_23 rfl (lv_at hl 0 rfl) ?_
        refine z_muV (As := [.int (nI cnt), .int (nI sg), .int (nI w)]) (rest := []) ⟨hx, hb, hml, hown, hts⟩ (c_X3_run l D cI q0 se1 gf1 ak1 gn1 cnt sg w (by first | assumption | omega) (by first | assumption | omega) (by first | assumption | omega)) (cwV 3 hts gX4_qualityWanted_X3_run rfl rfl rfl hd_X3_run ⟨Nat.le_of_ble_eq_true rfl, Nat.le_of_ble_eq_true rfl⟩) ⟨hK, hE⟩ hP hD rfl hS [2] (by decide) rfl (fun _ => rfl) (va_recv hK hP (ci := 3) (q0 := 2) rfl rfl) rfl hl.1 rfl (Nat.le_of_ble_eq_true rfl) dX4_qualityWanted_24 (Nat.zero_le _) (Nat.zero_le _) (fun v9 u9 H locs hp hP hS => ?_)
        obtain rfl := hp
        have hP : va_P D vwCl [(h0, .inr (4, [.ref b0, .ref m0, .ref p0, .ref s0, .ref q0, .int (nI q), .int (nI sg), .int rp, .int lo, .int ea])), (p0, .inr (2, [.ref p1, .ref p2, .ref p3, .ref p4, .int (nI cnt)])), (q0, .inr (3, [.int (nI (seN w sg cnt)), .int (nI (gfN w sg cnt)), .int (nI (akN w sg cnt)), .int (nI (gnN w sg cnt))]))] H := hP
        refine W.eq (g2 := F0 mi 27 ls []) rfl ?_
        refine lv_aload_n hx hb dX4_qualityWanted_27 rfl (lv_at hl 1 rfl) ?_
        refine va_get (v := .ref q0) hx hb hts hi_4 hown hK hP 0 rfl rfl 4 (by decide) f_36 (fun _ h => h) rfl dX4_qualityWanted_28 ?_
        refine z_roV (As := []) (rest := []) ⟨hx, hb, hml, hown, hts⟩ (c_X3_groupsLost l D cI q0 (seN w sg cnt) (gfN w sg cnt) (akN w sg cnt) (gnN w sg cnt)) (cwV 0 hts gX4_qualityWanted_X3_groupsLost rfl rfl rfl hd_X3_groupsLost ⟨Nat.le_of_ble_eq_true rfl, Nat.le_of_ble_eq_true rfl⟩) ⟨hK, hE⟩ (hP.sub (ws' := [(q0, .inr (3, [.int (nI (seN w sg cnt)), .int (nI (gfN w sg cnt)), .int (nI (akN w sg cnt)), .int (nI (gnN w sg cnt))]))]) [2] rfl) (va_recv hK hP (ci := 3) (q0 := 2) rfl rfl) rfl hl.1 rfl (Nat.le_of_ble_eq_true rfl) dX4_qualityWanted_31 (Nat.zero_le _) (Nat.zero_le _) ?_
        have hgl := gnN_le w sg cnt
        refine z_if_ne (tgt := 39) hx hb dX4_qualityWanted_34 (by decide) (by omega) (fun c_34 => ?_) (fun c_34 => ?_)
        · refine lv_iinc (v := nI (w + 1)) (lv' := [(1, .int (nI (w + 1))), (0, .ref h0)]) hx hb dX4_qualityWanted_39 hl (k := 0) rfl (z_inc1 _) (by decide) rfl (fun ls hl => ?_)
          refine lv_goto (tgt := 2) hx hb dX4_qualityWanted_42 (by decide) ?_
          exact ih_2 (w + 1) (seN w sg cnt) (gfN w sg cnt) (akN w sg cnt) (gnN w sg cnt) ⟨by omega, by omega⟩ (by rw [heq]; exact qw_f c_34 (by omega)) (by omega) H locs ls hP hS (lv_sub hl [0, 1] rfl)
        · refine lv_iload_n hx hb dX4_qualityWanted_37 rfl (lv_at hl 0 rfl) ?_
          exact mu_iret hA hQ hx hb hr hlocks (seN w sg cnt, gfN w sg cnt, akN w sg cnt, gnN w sg cnt) hP hS (by rw [heq, qw_t c_34 (by omega)]) dX4_qualityWanted_38
  exact lp_2 ((11 - 1) + 1) 1 se gf ak gn (⟨Nat.le_refl _, by omega⟩) rfl (Nat.lt_succ_self _) H locs ls hP hS hl
set_option maxHeartbeats 4000000 in
set_option maxRecDepth 100000 in
theorem c_X4_uselessCode (l : Launch) (D : va_G) (cI : ClassId) (h0 : Nat) (b0 : Nat) (m0 : Nat) (p0 : Nat) (s0 : Nat) (q0 : Nat) (q : Nat) (sg : Nat) (rp : Int32) (lo : Int32) (ea : Int32) (s1 : Nat) (s2 : Nat) (s3 : Nat) (s4 : Nat) (fs : Nat → Nat) (lfs : Nat → Nat) (Cs : Nat → Int32) (pss : Nat → Nat) (cnts : Nat) (m1 : Nat) (t : Nat → Nat) (n : Nat) (b1 : Nat) (b2 : Nat) (T : Nat → Int32) (Lf : Nat → Nat) (k : Nat) (p1 : Nat) (p2 : Nat) (p3 : Nat) (p4 : Nat) (cnt : Nat) (hn : n ≤ 24) (hk : k ≤ 8) (hL : ∀ c, c < k → 2 ≤ Lf c ∧ Lf c ≤ 4) (hcnt : cnt ≤ 24) : MU l yX4_uselessCode wsX4_uselessCode rm_X4_uselessCode D cI [(h0, .inr (4, [.ref b0, .ref m0, .ref p0, .ref s0, .ref q0, .int (nI q), .int (nI sg), .int rp, .int lo, .int ea])), (s0, .inr (2, [.ref s1, .ref s2, .ref s3, .ref s4, .int (nI cnts)])), (s1, .inl (cI, 25, .inl (nA fs))), (s2, .inl (cI, 24, .inl (nA lfs))), (s3, .inl (cI, 24, .inl Cs)), (s4, .inl (cI, 24, .inl (nA pss))), (m0, .inr (1, [.ref m1, .int (nI n)])), (m1, .inl (cI, 24, .inl (nA t))), (b0, .inr (0, [.ref b1, .ref b2, .int (nI k)])), (b1, .inl (cI, 32, .inl T)), (b2, .inl (cI, 8, .inl (nA Lf))), (p0, .inr (2, [.ref p1, .ref p2, .ref p3, .ref p4, .int (nI cnt)]))] [.ref h0] (fun (v9 : Option Value) (u9 : Int32 × (Nat → Nat) × (Nat → Nat) × (Nat → Int32) × (Nat → Nat) × Nat) => v9 = some (.int u9.1) ∧ (UC t n T Lf k cnt u9.1)) (fun (u9 : Int32 × (Nat → Nat) × (Nat → Nat) × (Nat → Int32) × (Nat → Nat) × Nat) => [(h0, .inr (4, [.ref b0, .ref m0, .ref p0, .ref s0, .ref q0, .int (nI q), .int (nI sg), .int rp, .int lo, .int ea])), (s0, .inr (2, [.ref s1, .ref s2, .ref s3, .ref s4, .int (nI u9.2.2.2.2.2)])), (s1, .inl (cI, 25, .inl (nA u9.2.1))), (s2, .inl (cI, 24, .inl (nA u9.2.2.1))), (s3, .inl (cI, 24, .inl u9.2.2.2.1)), (s4, .inl (cI, 24, .inl (nA u9.2.2.2.2.1))), (m0, .inr (1, [.ref m1, .int (nI n)])), (m1, .inl (cI, 24, .inl (nA t))), (b0, .inr (0, [.ref b1, .ref b2, .int (nI k)])), (b1, .inl (cI, 32, .inl T)), (b2, .inl (cI, 8, .inl (nA Lf))), (p0, .inr (2, [.ref p1, .ref p2, .ref p3, .ref p4, .int (nI cnt)]))]) := by
  refine mu_of (C := RX4) (cc := cX4_uselessCode) (maxL := 2) (ret := (some .int)) rfl (by decide) rfl (Nat.le_of_ble_eq_true rfl) ?_
  intro pg ev sv mi ag bl mt cd ls Q A hA hQ hx hb hr hlocks hml hts hown hK hE hD H locs hP hS hl
  have hD : zDD A [h0, s0, s1, s2, s3, s4, m0, m1, b0, b1, b2, p0] := hD
  have hl : lv_has ls 2 [(0, .ref h0)] := hl
  have f_10 := hts (.fieldLink RX4 10 "TelegraphDesk" "book" "LTelegraphDesk$CodeBook;") (by decide +kernel)
  have f_30 := hts (.fieldLink RX4 30 "TelegraphDesk" "supposed" "LTelegraphDesk$Parting;") (by decide +kernel)
  have f_19 := hts (.fieldLink RX4 19 "TelegraphDesk" "message" "LTelegraphDesk$Message;") (by decide +kernel)
  have f_26 := hts (.fieldLink RX4 26 "TelegraphDesk" "parting" "LTelegraphDesk$Parting;") (by decide +kernel)
  have hi_4 : ∀ w ∈ wsX40, w ∈ wsX4_uselessCode := by decide +kernel
  refine lv_iconst (v := nI 0) hx hb dX4_uselessCode_0 ci_0 ?_
  refine lv_istore_n (lv' := [(1, .int (nI 0)), (0, .ref h0)]) hx hb dX4_uselessCode_1 rfl hl (by decide) rfl (fun ls hl => ?_)
  have lp_2 : ∀ (Nf : Nat) (i : Nat) (fs1 : Nat → Nat) (lfs1 : Nat → Nat) (Cs1 : Nat → Int32) (pss1 : Nat → Nat) (cnts1 : Nat) (hi : i ≤ k) (hall : ∀ j, j < i → Gn t n T Lf k (nI j) 0 0 (fun g => cnt < g)) (hN : k - i < Nf) (H : Heap) (locs : List Loc) (ls : Array Slot), va_P D vwCl [(h0, .inr (4, [.ref b0, .ref m0, .ref p0, .ref s0, .ref q0, .int (nI q), .int (nI sg), .int rp, .int lo, .int ea])), (s0, .inr (2, [.ref s1, .ref s2, .ref s3, .ref s4, .int (nI cnts1)])), (s1, .inl (cI, 25, .inl (nA fs1))), (s2, .inl (cI, 24, .inl (nA lfs1))), (s3, .inl (cI, 24, .inl Cs1)), (s4, .inl (cI, 24, .inl (nA pss1))), (m0, .inr (1, [.ref m1, .int (nI n)])), (m1, .inl (cI, 24, .inl (nA t))), (b0, .inr (0, [.ref b1, .ref b2, .int (nI k)])), (b1, .inl (cI, 32, .inl T)), (b2, .inl (cI, 8, .inl (nA Lf))), (p0, .inr (2, [.ref p1, .ref p2, .ref p3, .ref p4, .int (nI cnt)]))] H → va_S A sv.heap H locs → lv_has ls 2 [(1, .int (nI i)), (0, .ref h0)] → W pg l ev rm_X4_uselessCode sv mi ag bl mt cd H locs 0 0 Q (F0 mi 2 ls []) := by
    intro Nf
    induction Nf with
    | zero =>
      intro i fs1 lfs1 Cs1 pss1 cnts1 hi hall hN
      exact absurd hN (Nat.not_lt_zero _)
    | succ Nf ih_2 =>
      intro i fs1 lfs1 Cs1 pss1 cnts1 hi hall hN H locs ls hP hS hl
      refine lv_iload_n hx hb dX4_uselessCode_2 rfl (lv_at hl 0 rfl) ?_
      refine lv_aload_n hx hb dX4_uselessCode_3 rfl (lv_at hl 1 rfl) ?_
      refine va_get (v := .ref b0) hx hb hts hi_4 hown hK hP 0 rfl rfl 0 (by decide) f_10 (fun _ h => h) rfl dX4_uselessCode_4 ?_
      refine z_roV (As := []) (rest := [.int (nI i)]) ⟨hx, hb, hml, hown, hts⟩ (c_X0_size l D cI b0 b1 b2 k) (cwV 0 hts gX4_uselessCode_X0_size rfl rfl rfl hd_X0_size ⟨Nat.le_of_ble_eq_true rfl, Nat.le_of_ble_eq_true rfl⟩) ⟨hK, hE⟩ (hP.sub (ws' := [(b0, .inr (0, [.ref b1, .ref b2, .int (nI k)]))]) [8] rfl) (va_recv hK hP (ci := 0) (q0 := 8) rfl rfl) rfl hl.1 rfl (Nat.le_of_ble_eq_true rfl) dX4_uselessCode_7 (Nat.zero_le _) (Nat.zero_le _) ?_
      refine z_icmp_ge (tgt := 54) hx hb dX4_uselessCode_10 (by decide) (by omega) (by omega) (fun c_10 => ?_) (fun c_10 => ?_)
      · refine lv_iconst (v := -1) hx hb dX4_uselessCode_54 ci_m1 ?_
        exact mu_iret hA hQ hx hb hr hlocks (-1, fs1, lfs1, Cs1, pss1, cnts1) hP hS ⟨rfl, Or.inr ⟨rfl, fun j hj => hall j (by omega)⟩⟩ dX4_uselessCode_55
      · refine lv_aload_n hx hb dX4_uselessCode_13 rfl (lv_at hl 1 rfl) ?_
        refine va_get (v := .ref s0) hx hb hts hi_4 hown hK hP 0 rfl rfl 3 (by decide) f_30 (fun _ h => h) rfl dX4_uselessCode_14 ?_
        refine lv_aload_n hx hb dX4_uselessCode_17 rfl (lv_at hl 1 rfl) ?_
        refine va_get (v := .ref m0) hx hb hts hi_4 hown hK hP 0 rfl rfl 1 (by decide) f_19 (fun _ h => h) rfl dX4_uselessCode_18 ?_
        refine lv_aload_n hx hb dX4_uselessCode_21 rfl (lv_at hl 1 rfl) ?_
        refine va_get (v := .ref b0) hx hb hts hi_4 hown hK hP 0 rfl rfl 0 (by decide) f_10 (fun _ h => h) rfl dX4_uselessCode_22 ?_
        refine lv_iload_n hx hb dX4_uselessCode_25 rfl (lv_at hl 0 rfl) ?_
        refine z_muV (As := [.ref m0, .ref b0, .int (nI i)]) (rest := []) ⟨hx, hb, hml, hown, hts⟩ (c_X2_partWithout l D cI s0 s1 s2 s3 s4 m0 m1 b0 b1 b2 fs1 lfs1 Cs1 pss1 cnts1 t n T Lf k (nI i) (by first | assumption | omega) (by first | assumption | omega) (by first | assumption | omega)) (cwV 3 hts gX4_uselessCode_X2_partWithout rfl rfl rfl hd_X2_partWithout ⟨Nat.le_of_ble_eq_true rfl, Nat.le_of_ble_eq_true rfl⟩) ⟨hK, hE⟩ hP hD rfl hS [1, 2, 3, 4, 5, 6, 7, 8, 9, 10] (by decide) rfl (fun _ => rfl) (va_recv hK hP (ci := 2) (q0 := 1) rfl rfl) rfl hl.1 rfl (Nat.le_of_ble_eq_true rfl) dX4_uselessCode_26 (Nat.zero_le _) (Nat.zero_le _) (fun v9 u9 H locs hp hP hS => ?_)
        obtain ⟨f2_26, lf2_26, C2_26, ps2_26, cnt2_26⟩ := u9
        obtain ⟨rfl, hpart_26⟩ := hp
        try dsimp only at hpart_26
        have hP : va_P D vwCl [(h0, .inr (4, [.ref b0, .ref m0, .ref p0, .ref s0, .ref q0, .int (nI q), .int (nI sg), .int rp, .int lo, .int ea])), (s0, .inr (2, [.ref s1, .ref s2, .ref s3, .ref s4, .int (nI cnt2_26)])), (s1, .inl (cI, 25, .inl (nA f2_26))), (s2, .inl (cI, 24, .inl (nA lf2_26))), (s3, .inl (cI, 24, .inl C2_26)), (s4, .inl (cI, 24, .inl (nA ps2_26))), (m0, .inr (1, [.ref m1, .int (nI n)])), (m1, .inl (cI, 24, .inl (nA t))), (b0, .inr (0, [.ref b1, .ref b2, .int (nI k)])), (b1, .inl (cI, 32, .inl T)), (b2, .inl (cI, 8, .inl (nA Lf))), (p0, .inr (2, [.ref p1, .ref p2, .ref p3, .ref p4, .int (nI cnt)]))] H := hP
        refine W.eq (g2 := F0 mi 29 ls []) rfl ?_
        refine lv_aload_n hx hb dX4_uselessCode_29 rfl (lv_at hl 1 rfl) ?_
        refine va_get (v := .ref s0) hx hb hts hi_4 hown hK hP 0 rfl rfl 3 (by decide) f_30 (fun _ h => h) rfl dX4_uselessCode_30 ?_
        refine z_roV (As := []) (rest := []) ⟨hx, hb, hml, hown, hts⟩ (c_X2_size l D cI s0 s1 s2 s3 s4 cnt2_26) (cwV 0 hts gX4_uselessCode_X2_size rfl rfl rfl hd_X2_size ⟨Nat.le_of_ble_eq_true rfl, Nat.le_of_ble_eq_true rfl⟩) ⟨hK, hE⟩ (hP.sub (ws' := [(s0, .inr (2, [.ref s1, .ref s2, .ref s3, .ref s4, .int (nI cnt2_26)]))]) [1] rfl) (va_recv hK hP (ci := 2) (q0 := 1) rfl rfl) rfl hl.1 rfl (Nat.le_of_ble_eq_true rfl) dX4_uselessCode_33 (Nat.zero_le _) (Nat.zero_le _) ?_
        have hb9 := hpart_26.2.2.2
        refine lv_aload_n hx hb dX4_uselessCode_36 rfl (lv_at hl 1 rfl) ?_
        refine va_get (v := .ref p0) hx hb hts hi_4 hown hK hP 0 rfl rfl 2 (by decide) f_26 (fun _ h => h) rfl dX4_uselessCode_37 ?_
        refine z_roV (As := []) (rest := [.int (nI cnt2_26)]) ⟨hx, hb, hml, hown, hts⟩ (c_X2_size l D cI p0 p1 p2 p3 p4 cnt) (cwV 0 hts gX4_uselessCode_X2_size rfl rfl rfl hd_X2_size ⟨Nat.le_of_ble_eq_true rfl, Nat.le_of_ble_eq_true rfl⟩) ⟨hK, hE⟩ (hP.sub (ws' := [(p0, .inr (2, [.ref p1, .ref p2, .ref p3, .ref p4, .int (nI cnt)]))]) [11] rfl) (va_recv hK hP (ci := 2) (q0 := 11) rfl rfl) rfl hl.1 rfl (Nat.le_of_ble_eq_true rfl) dX4_uselessCode_40 (Nat.zero_le _) (Nat.zero_le _) ?_
        refine z_icmp_gt (tgt := 48) hx hb dX4_uselessCode_43 (by decide) (by omega) (by omega) (fun c_43 => ?_) (fun c_43 => ?_)
        · refine lv_iinc (v := nI (i + 1)) (lv' := [(1, .int (nI (i + 1))), (0, .ref h0)]) hx hb dX4_uselessCode_48 hl (k := 0) rfl (z_inc1 _) (by decide) rfl (fun ls hl => ?_)
          refine lv_goto (tgt := 2) hx hb dX4_uselessCode_51 (by decide) ?_
          exact ih_2 (i + 1) f2_26 lf2_26 C2_26 ps2_26 cnt2_26 (by omega) (lt_s hall ⟨_, _, _, _, _, hpart_26, c_43⟩) (by omega) H locs ls hP hS (lv_sub hl [0, 1] rfl)
        · refine lv_iload_n hx hb dX4_uselessCode_46 rfl (lv_at hl 0 rfl) ?_
          exact mu_iret hA hQ hx hb hr hlocks (nI i, f2_26, lf2_26, C2_26, ps2_26, cnt2_26) hP hS ⟨rfl, Or.inl ⟨i, c_10, rfl, ⟨_, _, _, _, _, hpart_26, c_43⟩, hall⟩⟩ dX4_uselessCode_47
  exact lp_2 ((k - 0) + 1) 0 fs lfs Cs pss cnts (Nat.zero_le _) (fun _ h => absurd h (Nat.not_lt_zero _)) (Nat.lt_succ_self _) H locs ls hP hS hl
set_option maxHeartbeats 4000000 in
set_option maxRecDepth 100000 in
theorem c_X4_bestStart (l : Launch) (D : va_G) (cI : ClassId) (h0 : Nat) (b0 : Nat) (m0 : Nat) (p0 : Nat) (s0 : Nat) (q0 : Nat) (q : Nat) (sg : Nat) (rp : Int32) (lo : Int32) (ea : Int32) (s1 : Nat) (s2 : Nat) (s3 : Nat) (s4 : Nat) (fs : Nat → Nat) (lfs : Nat → Nat) (Cs : Nat → Int32) (pss : Nat → Nat) (cnts : Nat) (m1 : Nat) (t : Nat → Nat) (n : Nat) (b1 : Nat) (b2 : Nat) (T : Nat → Int32) (Lf : Nat → Nat) (k : Nat) (m2 : Nat) (hn : n ≤ 24) (hk : k ≤ 8) (hL : ∀ c, c < k → 2 ≤ Lf c ∧ Lf c ≤ 4) (hm2 : 2 ≤ m2 ∧ m2 ≤ 4) : MU l yX4_bestStart wsX4_bestStart rm_X4_bestStart D cI [(h0, .inr (4, [.ref b0, .ref m0, .ref p0, .ref s0, .ref q0, .int (nI q), .int (nI sg), .int rp, .int lo, .int ea])), (s0, .inr (2, [.ref s1, .ref s2, .ref s3, .ref s4, .int (nI cnts)])), (s1, .inl (cI, 25, .inl (nA fs))), (s2, .inl (cI, 24, .inl (nA lfs))), (s3, .inl (cI, 24, .inl Cs)), (s4, .inl (cI, 24, .inl (nA pss))), (m0, .inr (1, [.ref m1, .int (nI n)])), (m1, .inl (cI, 24, .inl (nA t))), (b0, .inr (0, [.ref b1, .ref b2, .int (nI k)])), (b1, .inl (cI, 32, .inl T)), (b2, .inl (cI, 8, .inl (nA Lf)))] [.ref h0, .int (nI m2)] (fun (v9 : Option Value) (u9 : Int32 × (Nat → Nat) × (Nat → Nat) × (Nat → Int32) × (Nat → Nat) × Nat) => v9 = some (.int u9.1) ∧ (BS t n T Lf k m2 u9.1)) (fun (u9 : Int32 × (Nat → Nat) × (Nat → Nat) × (Nat → Int32) × (Nat → Nat) × Nat) => [(h0, .inr (4, [.ref b0, .ref m0, .ref p0, .ref s0, .ref q0, .int (nI q), .int (nI sg), .int rp, .int lo, .int ea])), (s0, .inr (2, [.ref s1, .ref s2, .ref s3, .ref s4, .int (nI u9.2.2.2.2.2)])), (s1, .inl (cI, 25, .inl (nA u9.2.1))), (s2, .inl (cI, 24, .inl (nA u9.2.2.1))), (s3, .inl (cI, 24, .inl u9.2.2.2.1)), (s4, .inl (cI, 24, .inl (nA u9.2.2.2.2.1))), (m0, .inr (1, [.ref m1, .int (nI n)])), (m1, .inl (cI, 24, .inl (nA t))), (b0, .inr (0, [.ref b1, .ref b2, .int (nI k)])), (b1, .inl (cI, 32, .inl T)), (b2, .inl (cI, 8, .inl (nA Lf)))]) := by
  refine mu_of (C := RX4) (cc := cX4_bestStart) (maxL := 5) (ret := (some .int)) rfl (by decide) rfl (Nat.le_of_ble_eq_true rfl) ?_
  intro pg ev sv mi ag bl mt cd ls Q A hA hQ hx hb hr hlocks hml hts hown hK hE hD H locs hP hS hl
  have hD : zDD A [h0, s0, s1, s2, s3, s4, m0, m1, b0, b1, b2] := hD
  have hl : lv_has ls 5 [(0, .ref h0), (1, .int (nI m2))] := hl
  have f_19 := hts (.fieldLink RX4 19 "TelegraphDesk" "message" "LTelegraphDesk$Message;") (by decide +kernel)
  have f_30 := hts (.fieldLink RX4 30 "TelegraphDesk" "supposed" "LTelegraphDesk$Parting;") (by decide +kernel)
  have f_10 := hts (.fieldLink RX4 10 "TelegraphDesk" "book" "LTelegraphDesk$CodeBook;") (by decide +kernel)
  have hi_4 : ∀ w ∈ wsX40, w ∈ wsX4_bestStart := by decide +kernel
  refine lv_iconst (v := -1) hx hb dX4_bestStart_0 ci_m1 ?_
  refine lv_istore_n (lv' := [(2, .int (-1)), (0, .ref h0), (1, .int (nI m2))]) hx hb dX4_bestStart_1 rfl hl (by decide) rfl (fun ls hl => ?_)
  refine lv_iconst (v := nI 0) hx hb dX4_bestStart_2 ci_0 ?_
  refine lv_istore_n (lv' := [(3, .int (nI 0)), (2, .int (-1)), (0, .ref h0), (1, .int (nI m2))]) hx hb dX4_bestStart_3 rfl hl (by decide) rfl (fun ls hl => ?_)
  refine lv_iconst (v := nI 0) hx hb dX4_bestStart_4 ci_0 ?_
  refine lv_istore (lv' := [(4, .int (nI 0)), (3, .int (nI 0)), (2, .int (-1)), (0, .ref h0), (1, .int (nI m2))]) hx hb dX4_bestStart_5 hl (by decide) rfl (fun ls hl => ?_)
  have lp_7 : ∀ (Nf : Nat) (i : Nat) (bb : Int32) (fw : Nat) (fs1 : Nat → Nat) (lfs1 : Nat → Nat) (Cs1 : Nat → Int32) (pss1 : Nat → Nat) (cnts1 : Nat) (hi : i ≤ 24) (hbi : BI t n T Lf k m2 i bb fw) (hN : 25 - i < Nf) (H : Heap) (locs : List Loc) (ls : Array Slot), va_P D vwCl [(h0, .inr (4, [.ref b0, .ref m0, .ref p0, .ref s0, .ref q0, .int (nI q), .int (nI sg), .int rp, .int lo, .int ea])), (s0, .inr (2, [.ref s1, .ref s2, .ref s3, .ref s4, .int (nI cnts1)])), (s1, .inl (cI, 25, .inl (nA fs1))), (s2, .inl (cI, 24, .inl (nA lfs1))), (s3, .inl (cI, 24, .inl Cs1)), (s4, .inl (cI, 24, .inl (nA pss1))), (m0, .inr (1, [.ref m1, .int (nI n)])), (m1, .inl (cI, 24, .inl (nA t))), (b0, .inr (0, [.ref b1, .ref b2, .int (nI k)])), (b1, .inl (cI, 32, .inl T)), (b2, .inl (cI, 8, .inl (nA Lf)))] H → va_S A sv.heap H locs → lv_has ls 5 [(4, .int (nI i)), (3, .int (nI fw)), (2, .int bb), (0, .ref h0), (1, .int (nI m2))] → W pg l ev rm_X4_bestStart sv mi ag bl mt cd H locs 0 0 Q (F0 mi 7 ls []) := by
    intro Nf
    induction Nf with
    | zero =>
      intro i bb fw fs1 lfs1 Cs1 pss1 cnts1 hi hbi hN
      exact absurd hN (Nat.not_lt_zero _)
    | succ Nf ih_7 =>
      intro i bb fw fs1 lfs1 Cs1 pss1 cnts1 hi hbi hN H locs ls hP hS hl
      refine lv_iload hx hb dX4_bestStart_7 (lv_at hl 0 rfl) ?_
      refine lv_iload_n hx hb dX4_bestStart_9 rfl (lv_at hl 4 rfl) ?_
      refine z_iadd hx hb dX4_bestStart_10 ?_
      refine lv_aload_n hx hb dX4_bestStart_11 rfl (lv_at hl 3 rfl) ?_
      refine va_get (v := .ref m0) hx hb hts hi_4 hown hK hP 0 rfl rfl 1 (by decide) f_19 (fun _ h => h) rfl dX4_bestStart_12 ?_
      refine z_roV (As := []) (rest := [.int (nI (i + m2))]) ⟨hx, hb, hml, hown, hts⟩ (c_X1_size l D cI m0 m1 n) (cwV 0 hts gX4_bestStart_X1_size rfl rfl rfl hd_X1_size ⟨Nat.le_of_ble_eq_true rfl, Nat.le_of_ble_eq_true rfl⟩) ⟨hK, hE⟩ (hP.sub (ws' := [(m0, .inr (1, [.ref m1, .int (nI n)]))]) [6] rfl) (va_recv hK hP (ci := 1) (q0 := 6) rfl rfl) rfl hl.1 rfl (Nat.le_of_ble_eq_true rfl) dX4_bestStart_15 (Nat.zero_le _) (Nat.zero_le _) ?_
      refine z_icmp_gt (tgt := 72) hx hb dX4_bestStart_18 (by decide) (by omega) (by omega) (fun c_18 => ?_) (fun c_18 => ?_)
      · refine lv_iload_n hx hb dX4_bestStart_72 rfl (lv_at hl 2 rfl) ?_
        exact mu_iret hA hQ hx hb hr hlocks (bb, fs1, lfs1, Cs1, pss1, cnts1) hP hS ⟨rfl, bi_e hbi (by omega)⟩ dX4_bestStart_73
      · refine lv_aload_n hx hb dX4_bestStart_21 rfl (lv_at hl 3 rfl) ?_
        refine va_get (v := .ref s0) hx hb hts hi_4 hown hK hP 0 rfl rfl 3 (by decide) f_30 (fun _ h => h) rfl dX4_bestStart_22 ?_
        refine lv_aload_n hx hb dX4_bestStart_25 rfl (lv_at hl 3 rfl) ?_
        refine va_get (v := .ref m0) hx hb hts hi_4 hown hK hP 0 rfl rfl 1 (by decide) f_19 (fun _ h => h) rfl dX4_bestStart_26 ?_
        refine lv_aload_n hx hb dX4_bestStart_29 rfl (lv_at hl 3 rfl) ?_
        refine va_get (v := .ref b0) hx hb hts hi_4 hown hK hP 0 rfl rfl 0 (by decide) f_10 (fun _ h => h) rfl dX4_bestStart_30 ?_
        refine lv_iload hx hb dX4_bestStart_33 (lv_at hl 0 rfl) ?_
        refine lv_iload_n hx hb dX4_bestStart_35 rfl (lv_at hl 4 rfl) ?_
        refine z_muV (As := [.ref m0, .ref b0, .int (nI i), .int (nI m2)]) (rest := []) ⟨hx, hb, hml, hown, hts⟩ (c_X2_partWithNew l D cI s0 s1 s2 s3 s4 m0 m1 b0 b1 b2 fs1 lfs1 Cs1 pss1 cnts1 t n T Lf k i m2 (by first | assumption | omega) (by first | assumption | omega) (by first | assumption | omega) (Or.inr ⟨hm2.1, hm2.2, by omega⟩)) (cwV 4 hts gX4_bestStart_X2_partWithNew rfl rfl rfl hd_X2_partWithNew ⟨Nat.le_of_ble_eq_true rfl, Nat.le_of_ble_eq_true rfl⟩) ⟨hK, hE⟩ hP hD rfl hS [1, 2, 3, 4, 5, 6, 7, 8, 9, 10] (by decide) rfl (fun _ => rfl) (va_recv hK hP (ci := 2) (q0 := 1) rfl rfl) rfl hl.1 rfl (Nat.le_of_ble_eq_true rfl) dX4_bestStart_36 (Nat.zero_le _) (Nat.zero_le _) (fun v9 u9 H locs hp hP hS => ?_)
        obtain ⟨f2_36, lf2_36, C2_36, ps2_36, cnt2_36⟩ := u9
        obtain ⟨rfl, hpart_36⟩ := hp
        try dsimp only at hpart_36
        have hP : va_P D vwCl [(h0, .inr (4, [.ref b0, .ref m0, .ref p0, .ref s0, .ref q0, .int (nI q), .int (nI sg), .int rp, .int lo, .int ea])), (s0, .inr (2, [.ref s1, .ref s2, .ref s3, .ref s4, .int (nI cnt2_36)])), (s1, .inl (cI, 25, .inl (nA f2_36))), (s2, .inl (cI, 24, .inl (nA lf2_36))), (s3, .inl (cI, 24, .inl C2_36)), (s4, .inl (cI, 24, .inl (nA ps2_36))), (m0, .inr (1, [.ref m1, .int (nI n)])), (m1, .inl (cI, 24, .inl (nA t))), (b0, .inr (0, [.ref b1, .ref b2, .int (nI k)])), (b1, .inl (cI, 32, .inl T)), (b2, .inl (cI, 8, .inl (nA Lf)))] H := hP
        refine W.eq (g2 := F0 mi 39 ls []) rfl ?_
        have hb9 := hpart_36.2.2.2
        have hf9 := bi_b hbi
        have hN9 : Nn t n T Lf k m2 i cnt2_36 := ⟨_, _, _, _, _, hpart_36, rfl⟩
        refine lv_iload_n hx hb dX4_bestStart_39 rfl (lv_at hl 2 rfl) ?_
        refine lv_iconst (v := -1) hx hb dX4_bestStart_40 ci_m1 ?_
        refine lv_icmp_eq (tgt := 55) hx hb dX4_bestStart_41 (by decide) (fun c_41 => ?_) (fun c_41 => ?_)
        · refine lv_iload hx hb dX4_bestStart_55 (lv_at hl 0 rfl) ?_
          refine lv_istore_n (lv' := [(2, .int (nI i)), (4, .int (nI i)), (3, .int (nI fw)), (0, .ref h0), (1, .int (nI m2))]) hx hb dX4_bestStart_57 rfl hl (by decide) rfl (fun ls hl => ?_)
          refine lv_aload_n hx hb dX4_bestStart_58 rfl (lv_at hl 3 rfl) ?_
          refine va_get (v := .ref s0) hx hb hts hi_4 hown hK hP 0 rfl rfl 3 (by decide) f_30 (fun _ h => h) rfl dX4_bestStart_59 ?_
          refine z_roV (As := []) (rest := []) ⟨hx, hb, hml, hown, hts⟩ (c_X2_size l D cI s0 s1 s2 s3 s4 cnt2_36) (cwV 0 hts gX4_bestStart_X2_size rfl rfl rfl hd_X2_size ⟨Nat.le_of_ble_eq_true rfl, Nat.le_of_ble_eq_true rfl⟩) ⟨hK, hE⟩ (hP.sub (ws' := [(s0, .inr (2, [.ref s1, .ref s2, .ref s3, .ref s4, .int (nI cnt2_36)]))]) [1] rfl) (va_recv hK hP (ci := 2) (q0 := 1) rfl rfl) rfl hl.1 rfl (Nat.le_of_ble_eq_true rfl) dX4_bestStart_62 (Nat.zero_le _) (Nat.zero_le _) ?_
          refine lv_istore_n (lv' := [(3, .int (nI cnt2_36)), (2, .int (nI i)), (4, .int (nI i)), (0, .ref h0), (1, .int (nI m2))]) hx hb dX4_bestStart_65 rfl hl (by decide) rfl (fun ls hl => ?_)
          refine lv_iinc (v := nI (i + 1)) (lv' := [(4, .int (nI (i + 1))), (3, .int (nI cnt2_36)), (2, .int (nI i)), (0, .ref h0), (1, .int (nI m2))]) hx hb dX4_bestStart_66 hl (k := 2) rfl (z_inc1 _) (by decide) rfl (fun ls hl => ?_)
          refine lv_goto (tgt := 7) hx hb dX4_bestStart_69 (by decide) ?_
          exact ih_7 (i + 1) (nI i) cnt2_36 f2_36 lf2_36 C2_36 ps2_36 cnt2_36 (by omega) (by first | exact bi_1 hbi c_41 hN9 (by omega) (by omega) | exact bi_2 hbi c_41 hN9 c_52 (by omega) (by omega) | exact bi_3 hbi c_41 hN9 c_52) (by omega) H locs ls hP hS (lv_sub hl [0, 1, 2, 3, 4] rfl)
        · refine lv_aload_n hx hb dX4_bestStart_44 rfl (lv_at hl 3 rfl) ?_
          refine va_get (v := .ref s0) hx hb hts hi_4 hown hK hP 0 rfl rfl 3 (by decide) f_30 (fun _ h => h) rfl dX4_bestStart_45 ?_
          refine z_roV (As := []) (rest := []) ⟨hx, hb, hml, hown, hts⟩ (c_X2_size l D cI s0 s1 s2 s3 s4 cnt2_36) (cwV 0 hts gX4_bestStart_X2_size rfl rfl rfl hd_X2_size ⟨Nat.le_of_ble_eq_true rfl, Nat.le_of_ble_eq_true rfl⟩) ⟨hK, hE⟩ (hP.sub (ws' := [(s0, .inr (2, [.ref s1, .ref s2, .ref s3, .ref s4, .int (nI cnt2_36)]))]) [1] rfl) (va_recv hK hP (ci := 2) (q0 := 1) rfl rfl) rfl hl.1 rfl (Nat.le_of_ble_eq_true rfl) dX4_bestStart_48 (Nat.zero_le _) (Nat.zero_le _) ?_
          refine lv_iload_n hx hb dX4_bestStart_51 rfl (lv_at hl 1 rfl) ?_
          refine z_icmp_ge (tgt := 66) hx hb dX4_bestStart_52 (by decide) (by omega) (by omega) (fun c_52 => ?_) (fun c_52 => ?_)
          · refine lv_iinc (v := nI (i + 1)) (lv' := [(4, .int (nI (i + 1))), (3, .int (nI fw)), (2, .int bb), (0, .ref h0), (1, .int (nI m2))]) hx hb dX4_bestStart_66 hl (k := 0) rfl (z_inc1 _) (by decide) rfl (fun ls hl => ?_)
            refine lv_goto (tgt := 7) hx hb dX4_bestStart_69 (by decide) ?_
            exact ih_7 (i + 1) bb fw f2_36 lf2_36 C2_36 ps2_36 cnt2_36 (by omega) (by first | exact bi_1 hbi c_41 hN9 (by omega) (by omega) | exact bi_2 hbi c_41 hN9 c_52 (by omega) (by omega) | exact bi_3 hbi c_41 hN9 c_52) (by omega) H locs ls hP hS (lv_sub hl [0, 1, 2, 3, 4] rfl)
          · refine lv_iload hx hb dX4_bestStart_55 (lv_at hl 0 rfl) ?_
            refine lv_istore_n (lv' := [(2, .int (nI i)), (4, .int (nI i)), (3, .int (nI fw)), (0, .ref h0), (1, .int (nI m2))]) hx hb dX4_bestStart_57 rfl hl (by decide) rfl (fun ls hl => ?_)
            refine lv_aload_n hx hb dX4_bestStart_58 rfl (lv_at hl 3 rfl) ?_
            refine va_get (v := .ref s0) hx hb hts hi_4 hown hK hP 0 rfl rfl 3 (by decide) f_30 (fun _ h => h) rfl dX4_bestStart_59 ?_
            refine z_roV (As := []) (rest := []) ⟨hx, hb, hml, hown, hts⟩ (c_X2_size l D cI s0 s1 s2 s3 s4 cnt2_36) (cwV 0 hts gX4_bestStart_X2_size rfl rfl rfl hd_X2_size ⟨Nat.le_of_ble_eq_true rfl, Nat.le_of_ble_eq_true rfl⟩) ⟨hK, hE⟩ (hP.sub (ws' := [(s0, .inr (2, [.ref s1, .ref s2, .ref s3, .ref s4, .int (nI cnt2_36)]))]) [1] rfl) (va_recv hK hP (ci := 2) (q0 := 1) rfl rfl) rfl hl.1 rfl (Nat.le_of_ble_eq_true rfl) dX4_bestStart_62 (Nat.zero_le _) (Nat.zero_le _) ?_
            refine lv_istore_n (lv' := [(3, .int (nI cnt2_36)), (2, .int (nI i)), (4, .int (nI i)), (0, .ref h0), (1, .int (nI m2))]) hx hb dX4_bestStart_65 rfl hl (by decide) rfl (fun ls hl => ?_)
            refine lv_iinc (v := nI (i + 1)) (lv' := [(4, .int (nI (i + 1))), (3, .int (nI cnt2_36)), (2, .int (nI i)), (0, .ref h0), (1, .int (nI m2))]) hx hb dX4_bestStart_66 hl (k := 2) rfl (z_inc1 _) (by decide) rfl (fun ls hl => ?_)
            refine lv_goto (tgt := 7) hx hb dX4_bestStart_69 (by decide) ?_
            exact ih_7 (i + 1) (nI i) cnt2_36 f2_36 lf2_36 C2_36 ps2_36 cnt2_36 (by omega) (by first | exact bi_1 hbi c_41 hN9 (by omega) (by omega) | exact bi_2 hbi c_41 hN9 c_52 (by omega) (by omega) | exact bi_3 hbi c_41 hN9 c_52) (by omega) H locs ls hP hS (lv_sub hl [0, 1, 2, 3, 4] rfl)
  exact lp_7 ((25 - 0) + 1) 0 (-1) 0 fs lfs Cs pss cnts (Nat.zero_le _) bi_0 (Nat.lt_succ_self _) H locs ls hP hS hl
