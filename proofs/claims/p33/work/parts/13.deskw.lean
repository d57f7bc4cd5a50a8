theorem hd_X4_shorten : yX4_shorten.cls = RX4 ∧ yX4_shorten.cls ≠ "java/lang/invoke/MethodHandle" ∧ yX4_shorten.cls ≠ "java/lang/invoke/VarHandle" ∧ (parseMethodDescriptor yX4_shorten.desc).map (fun d => d.parameters.length) = some 0 := by decide +kernel
theorem hd_X4_wouldBeGarbled : yX4_wouldBeGarbled.cls = RX4 ∧ yX4_wouldBeGarbled.cls ≠ "java/lang/invoke/MethodHandle" ∧ yX4_wouldBeGarbled.cls ≠ "java/lang/invoke/VarHandle" ∧ (parseMethodDescriptor yX4_wouldBeGarbled.desc).map (fun d => d.parameters.length) = some 0 := by decide +kernel
theorem hd_X4_repeatsIfSent : yX4_repeatsIfSent.cls = RX4 ∧ yX4_repeatsIfSent.cls ≠ "java/lang/invoke/MethodHandle" ∧ yX4_repeatsIfSent.cls ≠ "java/lang/invoke/VarHandle" ∧ (parseMethodDescriptor yX4_repeatsIfSent.desc).map (fun d => d.parameters.length) = some 0 := by decide +kernel
abbrev rm_X4_shorten : Room := { frames := 5, cells := 0, slots := 0, locals := 118 }
abbrev rm_X4_wouldBeGarbled : Room := { frames := 4, cells := 0, slots := 0, locals := 89 }
abbrev rm_X4_repeatsIfSent : Room := { frames := 4, cells := 0, slots := 0, locals := 89 }
set_option maxHeartbeats 4000000 in
set_option maxRecDepth 100000 in
theorem c_X4_shorten (l : Launch) (D : va_G) (cI : ClassId) (h0 : Nat) (b0 : Nat) (m0 : Nat) (p0 : Nat) (s0 : Nat) (q0 : Nat) (q : Nat) (sg : Nat) (rp : Int32) (lo : Int32) (ea : Int32) (p1 : Nat) (p2 : Nat) (p3 : Nat) (p4 : Nat) (f : Nat → Nat) (lf : Nat → Nat) (C : Nat → Int32) (ps : Nat → Nat) (cnt : Nat) (m1 : Nat) (t : Nat → Nat) (n : Nat) (b1 : Nat) (b2 : Nat) (T : Nat → Int32) (Lf : Nat → Nat) (k : Nat) (hn : n ≤ 24) (hk : k ≤ 8) (hL : ∀ c, c < k → 2 ≤ Lf c ∧ Lf c ≤ 4) : MU l yX4_shorten wsX4_shorten rm_X4_shorten D cI [(h0, .inr (4, [.ref b0, .ref m0, .ref p0, .ref s0, .ref q0, .int (nI q), .int (nI sg), .int rp, .int lo, .int ea])), (p0, .inr (2, [.ref p1, .ref p2, .ref p3, .ref p4, .int (nI cnt)])), (p1, .inl (cI, 25, .inl (nA f))), (p2, .inl (cI, 24, .inl (nA lf))), (p3, .inl (cI, 24, .inl C)), (p4, .inl (cI, 24, .inl (nA ps))), (m0, .inr (1, [.ref m1, .int (nI n)])), (m1, .inl (cI, 24, .inl (nA t))), (b0, .inr (0, [.ref b1, .ref b2, .int (nI k)])), (b1, .inl (cI, 32, .inl T)), (b2, .inl (cI, 8, .inl (nA Lf)))] [.ref h0] (fun (v9 : Option Value) (u9 : (Nat → Nat) × (Nat → Nat) × (Nat → Int32) × (Nat → Nat) × Nat) => v9 = none ∧ (PartC t n T Lf k (-1) 0 0 u9.1 u9.2.1 u9.2.2.1 u9.2.2.2.1 u9.2.2.2.2)) (fun (u9 : (Nat → Nat) × (Nat → Nat) × (Nat → Int32) × (Nat → Nat) × Nat) => [(h0, .inr (4, [.ref b0, .ref m0, .ref p0, .ref s0, .ref q0, .int (nI q), .int (nI sg), .int rp, .int lo, .int ea])), (p0, .inr (2, [.ref p1, .ref p2, .ref p3, .ref p4, .int (nI u9.2.2.2.2)])), (p1, .inl (cI, 25, .inl (nA u9.1))), (p2, .inl (cI, 24, .inl (nA u9.2.1))), (p3, .inl (cI, 24, .inl u9.2.2.1)), (p4, .inl (cI, 24, .inl (nA u9.2.2.2.1))), (m0, .inr (1, [.ref m1, .int (nI n)])), (m1, .inl (cI, 24, .inl (nA t))), (b0, .inr (0, [.ref b1, .ref b2, .int (nI k)])), (b1, .inl (cI, 32, .inl T)), (b2, .inl (cI, 8, .inl (nA Lf)))]) := by
  refine mu_of (C := RX4) (cc := cX4_shorten) (maxL := 1) (ret := none) rfl (by decide) rfl (Nat.le_of_ble_eq_true rfl) ?_
  intro pg ev sv mi ag bl mt cd ls Q A hA hQ hx hb hr hlocks hml hts hown hK hE hD H locs hP hS hl
  have hD : zDD A [h0, p0, p1, p2, p3, p4, m0, m1, b0, b1, b2] := hD
  have hl : lv_has ls 1 [(0, .ref h0)] := hl
  have f_26 := hts (.fieldLink RX4 26 "TelegraphDesk" "parting" "LTelegraphDesk$Parting;") (by decide +kernel)
  have f_19 := hts (.fieldLink RX4 19 "TelegraphDesk" "message" "LTelegraphDesk$Message;") (by decide +kernel)
  have f_10 := hts (.fieldLink RX4 10 "TelegraphDesk" "book" "LTelegraphDesk$CodeBook;") (by decide +kernel)
  have hi_4 : ∀ w ∈ wsX40, w ∈ wsX4_shorten := by decide +kernel
  refine lv_aload_n hx hb dX4_shorten_0 rfl (lv_at hl 0 rfl) ?_
  refine va_get (v := .ref p0) hx hb hts hi_4 hown hK hP 0 rfl rfl 2 (by decide) f_26 (fun _ h => h) rfl dX4_shorten_1 ?_
  refine lv_aload_n hx hb dX4_shorten_4 rfl (lv_at hl 0 rfl) ?_
  refine va_get (v := .ref m0) hx hb hts hi_4 hown hK hP 0 rfl rfl 1 (by decide) f_19 (fun _ h => h) rfl dX4_shorten_5 ?_
  refine lv_aload_n hx hb dX4_shorten_8 rfl (lv_at hl 0 rfl) ?_
  refine va_get (v := .ref b0) hx hb hts hi_4 hown hK hP 0 rfl rfl 0 (by decide) f_10 (fun _ h => h) rfl dX4_shorten_9 ?_
  refine z_muV (As := [.ref m0, .ref b0]) (rest := []) ⟨hx, hb, hml, hown, hts⟩ (c_X2_partAsIs l D cI p0 p1 p2 p3 p4 m0 m1 b0 b1 b2 f lf C ps cnt t n T Lf k (by first | assumption | omega) (by first | assumption | omega) (by first | assumption | omega)) (cwV 2 hts gX4_shorten_X2_partAsIs rfl rfl rfl hd_X2_partAsIs ⟨Nat.le_of_ble_eq_true rfl, Nat.le_of_ble_eq_true rfl⟩) ⟨hK, hE⟩ hP hD rfl hS [1, 2, 3, 4, 5, 6, 7, 8, 9, 10] (by decide) rfl (fun _ => rfl) (va_recv hK hP (ci := 2) (q0 := 1) rfl rfl) rfl hl.1 rfl (Nat.le_of_ble_eq_true rfl) dX4_shorten_12 (Nat.zero_le _) (Nat.zero_le _) (fun v9 u9 H locs hp hP hS => ?_)
  obtain ⟨f2_12, lf2_12, C2_12, ps2_12, cnt2_12⟩ := u9
  obtain ⟨rfl, hpart_12⟩ := hp
  try dsimp only at hpart_12
  have hP : va_P D vwCl [(h0, .inr (4, [.ref b0, .ref m0, .ref p0, .ref s0, .ref q0, .int (nI q), .int (nI sg), .int rp, .int lo, .int ea])), (p0, .inr (2, [.ref p1, .ref p2, .ref p3, .ref p4, .int (nI cnt2_12)])), (p1, .inl (cI, 25, .inl (nA f2_12))), (p2, .inl (cI, 24, .inl (nA lf2_12))), (p3, .inl (cI, 24, .inl C2_12)), (p4, .inl (cI, 24, .inl (nA ps2_12))), (m0, .inr (1, [.ref m1, .int (nI n)])), (m1, .inl (cI, 24, .inl (nA t))), (b0, .inr (0, [.ref b1, .ref b2, .int (nI k)])), (b1, .inl (cI, 32, .inl T)), (b2, .inl (cI, 8, .inl (nA Lf)))] H := hP
  refine W.eq (g2 := F0 mi 15 ls []) rfl ?_
  exact mu_vret hA hQ hx hb hr hlocks (f2_12, lf2_12, C2_12, ps2_12, cnt2_12) hP hS ⟨rfl, hpart_12⟩ dX4_shorten_15
set_option maxHeartbeats 4000000 in
set_option maxRecDepth 100000 in
theorem c_X4_wouldBeGarbled (l : Launch) (D : va_G) (cI : ClassId) (h0 : Nat) (b0 : Nat) (m0 : Nat) (p0 : Nat) (s0 : Nat) (q0 : Nat) (q : Nat) (sg : Nat) (rp : Int32) (lo : Int32) (ea : Int32) (p1 : Nat) (p2 : Nat) (p3 : Nat) (p4 : Nat) (cnt : Nat) (se : Nat) (gf : Nat) (ak : Nat) (gn : Nat) (hq : q ≤ 9) (hsg : sg ≤ 60000) (hcnt : cnt ≤ 24) : MU l yX4_wouldBeGarbled wsX4_wouldBeGarbled rm_X4_wouldBeGarbled D cI [(h0, .inr (4, [.ref b0, .ref m0, .ref p0, .ref s0, .ref q0, .int (nI q), .int (nI sg), .int rp, .int lo, .int ea])), (p0, .inr (2, [.ref p1, .ref p2, .ref p3, .ref p4, .int (nI cnt)])), (q0, .inr (3, [.int (nI se), .int (nI gf), .int (nI ak), .int (nI gn)]))] [.ref h0] (fun (v9 : Option Value) (u9 : Unit) => v9 = some (.int (nI (gfN q sg cnt)))) (fun (u9 : Unit) => [(h0, .inr (4, [.ref b0, .ref m0, .ref p0, .ref s0, .ref q0, .int (nI q), .int (nI sg), .int rp, .int lo, .int ea])), (p0, .inr (2, [.ref p1, .ref p2, .ref p3, .ref p4, .int (nI cnt)])), (q0, .inr (3, [.int (nI (seN q sg cnt)), .int (nI (gfN q sg cnt)), .int (nI (akN q sg cnt)), .int (nI (gnN q sg cnt))]))]) := by
  refine mu_of (C := RX4) (cc := cX4_wouldBeGarbled) (maxL := 1) (ret := (some .int)) rfl (by decide) rfl (Nat.le_of_ble_eq_true rfl) ?_
  intro pg ev sv mi ag bl mt cd ls Q A hA hQ hx hb hr hlocks hml hts hown hK hE hD H locs hP hS hl
  have hD : zDD A [h0, p0, q0] := hD
  have hl : lv_has ls 1 [(0, .ref h0)] := hl
  have f_36 := hts (.fieldLink RX4 36 "TelegraphDesk" "passage" "LTelegraphDesk$Passage;") (by decide +kernel)
  have f_26 := hts (.fieldLink RX4 26 "TelegraphDesk" "parting" "LTelegraphDesk$Parting;") (by decide +kernel)
  have f_159 := hts (.fieldLink RX4 159 "TelegraphDesk" "sentGroups" "I") (by decide +kernel)
  have f_40 := hts (.fieldLink RX4 40 "TelegraphDesk" "quality" "I") (by decide +kernel)
  have hi_4 : ∀ w ∈ wsX40, w ∈ wsX4_wouldBeGarbled := by decide +kernel
  refine lv_aload_n hx hb dX4_wouldBeGarbled_0 rfl (lv_at hl 0 rfl) ?_
  refine va_get (v := .ref q0) hx hb hts hi_4 hown hK hP 0 rfl rfl 4 (by decide) f_36 (fun _ h => h) rfl dX4_wouldBeGarbled_1 ?_
  refine lv_aload_n hx hb dX4_wouldBeGarbled_4 rfl (lv_at hl 0 rfl) ?_
  refine va_get (v := .ref p0) hx hb hts hi_4 hown hK hP 0 rfl rfl 2 (by decide) f_26 (fun _ h => h) rfl dX4_wouldBeGarbled_5 ?_
  refine z_roV (As := []) (rest := [.ref q0]) ⟨hx, hb, hml, hown, hts⟩ (c_X2_size l D cI p0 p1 p2 p3 p4 cnt) (cwV 0 hts gX4_wouldBeGarbled_X2_size rfl rfl rfl hd_X2_size ⟨Nat.le_of_ble_eq_true rfl, Nat.le_of_ble_eq_true rfl⟩) ⟨hK, hE⟩ (hP.sub (ws' := [(p0, .inr (2, [.ref p1, .ref p2, .ref p3, .ref p4, .int (nI cnt)]))]) [1] rfl) (va_recv hK hP (ci := 2) (q0 := 1) rfl rfl) rfl hl.1 rfl (Nat.le_of_ble_eq_true rfl) dX4_wouldBeGarbled_8 (Nat.zero_le _) (Nat.zero_le _) ?_
  refine lv_aload_n hx hb dX4_wouldBeGarbled_11 rfl (lv_at hl 0 rfl) ?_
  refine va_get (v := .int (nI sg)) hx hb hts hi_4 hown hK hP 0 rfl rfl 6 (by decide) f_159 (fun _ h => h) rfl dX4_wouldBeGarbled_12 ?_
  refine lv_aload_n hx hb dX4_wouldBeGarbled_15 rfl (lv_at hl 0 rfl) ?_
  refine va_get (v := .int (nI q)) hx hb hts hi_4 hown hK hP 0 rfl rfl 5 (by decide) f_40 (fun _ h => h) rfl dX4_wouldBeGarbled_16 ?_
  refine z_muV (As := [.int (nI cnt), .int (nI sg), .int (nI q)]) (rest := []) ⟨hx, hb, hml, hown, hts⟩ (c_X3_run l D cI q0 se gf ak gn cnt sg q (by first | assumption | omega) (by first | assumption | omega) (by first | assumption | omega)) (cwV 3 hts gX4_wouldBeGarbled_X3_run rfl rfl rfl hd_X3_run ⟨Nat.le_of_ble_eq_true rfl, Nat.le_of_ble_eq_true rfl⟩) ⟨hK, hE⟩ hP hD rfl hS [2] (by decide) rfl (fun _ => rfl) (va_recv hK hP (ci := 3) (q0 := 2) rfl rfl) rfl hl.1 rfl (Nat.le_of_ble_eq_true rfl) dX4_wouldBeGarbled_19 (Nat.zero_le _) (Nat.zero_le _) (fun v9 u9 H locs hp hP hS => ?_)
  obtain rfl := hp
  have hP : va_P D vwCl [(h0, .inr (4, [.ref b0, .ref m0, .ref p0, .ref s0, .ref q0, .int (nI q), .int (nI sg), .int rp, .int lo, .int ea])), (p0, .inr (2, [.ref p1, .ref p2, .ref p3, .ref p4, .int (nI cnt)])), (q0, .inr (3, [.int (nI (seN q sg cnt)), .int (nI (gfN q sg cnt)), .int (nI (akN q sg cnt)), .int (nI (gnN q sg cnt))]))] H := hP
  refine W.eq (g2 := F0 mi 22 ls []) rfl ?_
  refine lv_aload_n hx hb dX4_wouldBeGarbled_22 rfl (lv_at hl 0 rfl) ?_
  refine va_get (v := .ref q0) hx hb hts hi_4 hown hK hP 0 rfl rfl 4 (by decide) f_36 (fun _ h => h) rfl dX4_wouldBeGarbled_23 ?_
  refine z_roV (As := []) (rest := []) ⟨hx, hb, hml, hown, hts⟩ (c_X3_garbledAtFirst l D cI q0 (seN q sg cnt) (gfN q sg cnt) (akN q sg cnt) (gnN q sg cnt)) (cwV 0 hts gX4_wouldBeGarbled_X3_garbledAtFirst rfl rfl rfl hd_X3_garbledAtFirst ⟨Nat.le_of_ble_eq_true rfl, Nat.le_of_ble_eq_true rfl⟩) ⟨hK, hE⟩ (hP.sub (ws' := [(q0, .inr (3, [.int (nI (seN q sg cnt)), .int (nI (gfN q sg cnt)), .int (nI (akN q sg cnt)), .int (nI (gnN q sg cnt))]))]) [2] rfl) (va_recv hK hP (ci := 3) (q0 := 2) rfl rfl) rfl hl.1 rfl (Nat.le_of_ble_eq_true rfl) dX4_wouldBeGarbled_26 (Nat.zero_le _) (Nat.zero_le _) ?_
  exact mu_iret hA hQ hx hb hr hlocks () hP hS rfl dX4_wouldBeGarbled_29
set_option maxHeartbeats 4000000 in
set_option maxRecDepth 100000 in
theorem c_X4_repeatsIfSent (l : Launch) (D : va_G) (cI : ClassId) (h0 : Nat) (b0 : Nat) (m0 : Nat) (p0 : Nat) (s0 : Nat) (q0 : Nat) (q : Nat) (sg : Nat) (rp : Int32) (lo : Int32) (ea : Int32) (p1 : Nat) (p2 : Nat) (p3 : Nat) (p4 : Nat) (cnt : Nat) (se : Nat) (gf : Nat) (ak : Nat) (gn : Nat) (hq : q ≤ 9) (hsg : sg ≤ 60000) (hcnt : cnt ≤ 24) : MU l yX4_repeatsIfSent wsX4_repeatsIfSent rm_X4_repeatsIfSent D cI [(h0, .inr (4, [.ref b0, .ref m0, .ref p0, .ref s0, .ref q0, .int (nI q), .int (nI sg), .int rp, .int lo, .int ea])), (p0, .inr (2, [.ref p1, .ref p2, .ref p3, .ref p4, .int (nI cnt)])), (q0, .inr (3, [.int (nI se), .int (nI gf), .int (nI ak), .int (nI gn)]))] [.ref h0] (fun (v9 : Option Value) (u9 : Unit) => v9 = some (.int (nI (akN q sg cnt)))) (fun (u9 : Unit) => [(h0, .inr (4, [.ref b0, .ref m0, .ref p0, .ref s0, .ref q0, .int (nI q), .int (nI sg), .int rp, .int lo, .int ea])), (p0, .inr (2, [.ref p1, .ref p2, .ref p3, .ref p4, .int (nI cnt)])), (q0, .inr (3, [.int (nI (seN q sg cnt)), .int (nI (gfN q sg cnt)), .int (nI (akN q sg cnt)), .int (nI (gnN q sg cnt))]))]) := by
  refine mu_of (C := RX4) (cc := cX4_repeatsIfSent) (maxL := 1) (ret := (some .int)) rfl (by decide) rfl (Nat.le_of_ble_eq_true rfl) ?_
  intro pg ev sv mi ag bl mt cd ls Q A hA hQ hx hb hr hlocks hml hts hown hK hE hD H locs hP hS hl
  have hD : zDD A [h0, p0, q0] := hD
  have hl : lv_has ls 1 [(0, .ref h0)] := hl
  have f_36 := hts (.fieldLink RX4 36 "TelegraphDesk" "passage" "LTelegraphDesk$Passage;") (by decide +kernel)
  have f_26 := hts (.fieldLink RX4 26 "TelegraphDesk" "parting" "LTelegraphDesk$Parting;") (by decide +kernel)
  have f_159 := hts (.fieldLink RX4 159 "TelegraphDesk" "sentGroups" "I") (by decide +kernel)
  have f_40 := hts (.fieldLink RX4 40 "TelegraphDesk" "quality" "I") (by decide +kernel)
  have hi_4 : ∀ w ∈ wsX40, w ∈ wsX4_repeatsIfSent := by decide +kernel
  refine lv_aload_n hx hb dX4_repeatsIfSent_0 rfl (lv_at hl 0 rfl) ?_
  refine va_get (v := .ref q0) hx hb hts hi_4 hown hK hP 0 rfl rfl 4 (by decide) f_36 (fun _ h => h) rfl dX4_repeatsIfSent_1 ?_
  refine lv_aload_n hx hb dX4_repeatsIfSent_4 rfl (lv_at hl 0 rfl) ?_
  refine va_get (v := .ref p0) hx hb hts hi_4 hown hK hP 0 rfl rfl 2 (by decide) f_26 (fun _ h => h) rfl dX4_repeatsIfSent_5 ?_
  refine z_roV (As := []) (rest := [.ref q0]) ⟨hx, hb, hml, hown, hts⟩ (c_X2_size l D cI p0 p1 p2 p3 p4 cnt) (cwV 0 hts gX4_repeatsIfSent_X2_size rfl rfl rfl hd_X2_size ⟨Nat.le_of_ble_eq_true rfl, Nat.le_of_ble_eq_true rfl⟩) ⟨hK, hE⟩ (hP.sub (ws' := [(p0, .inr (2, [.ref p1, .ref p2, .ref p3, .ref p4, .int (nI cnt)]))]) [1] rfl) (va_recv hK hP (ci := 2) (q0 := 1) rfl rfl) rfl hl.1 rfl (Nat.le_of_ble_eq_true rfl) dX4_repeatsIfSent_8 (Nat.zero_le _) (Nat.zero_le _) ?_
  refine lv_aload_n hx hb dX4_repeatsIfSent_11 rfl (lv_at hl 0 rfl) ?_
  refine va_get (v := .int (nI sg)) hx hb hts hi_4 hown hK hP 0 rfl rfl 6 (by decide) f_159 (fun _ h => h) rfl dX4_repeatsIfSent_12 ?_
  refine lv_aload_n hx hb dX4_repeatsIfSent_15 rfl (lv_at hl 0 rfl) ?_
  refine va_get (v := .int (nI q)) hx hb hts hi_4 hown hK hP 0 rfl rfl 5 (by decide) f_40 (fun _ h => h) rfl dX4_repeatsIfSent_16 ?_
  refine z_muV (As := [.int (nI cnt), .int (nI sg), .int (nI q)]) (rest := []) ⟨hx, hb, hml, hown, hts⟩ (c_X3_run l D cI q0 se gf ak gn cnt sg q (by first | assumption | omega) (by first | assumption | omega) (by first | assumption | omega)) (cwV 3 hts gX4_repeatsIfSent_X3_run rfl rfl rfl hd_X3_run ⟨Nat.le_of_ble_eq_true rfl, Nat.le_of_ble_eq_true rfl⟩) ⟨hK, hE⟩ hP hD rfl hS [2] (by decide) rfl (fun _ => rfl) (va_recv hK hP (ci := 3) (q0 := 2) rfl rfl) rfl hl.1 rfl (Nat.le_of_ble_eq_true rfl) dX4_repeatsIfSent_19 (Nat.zero_le _) (Nat.zero_le _) (fun v9 u9 H locs hp hP hS => ?_)
  obtain rfl := hp
  have hP : va_P D vwCl [(h0, .inr (4, [.ref b0, .ref m0, .ref p0, .ref s0, .ref q0, .int (nI q), .int (nI sg), .int rp, .int lo, .int ea])), (p0, .inr (2, [.ref p1, .ref p2, .ref p3, .ref p4, .int (nI cnt)])), (q0, .inr (3, [.int (nI (seN q sg cnt)), .int (nI (gfN q sg cnt)), .int (nI (akN q sg cnt)), .int (nI (gnN q sg cnt))]))] H := hP
  refine W.eq (g2 := F0 mi 22 ls []) rfl ?_
  refine lv_aload_n hx hb dX4_repeatsIfSent_22 rfl (lv_at hl 0 rfl) ?_
  refine va_get (v := .ref q0) hx hb hts hi_4 hown hK hP 0 rfl rfl 4 (by decide) f_36 (fun _ h => h) rfl dX4_repeatsIfSent_23 ?_
  refine z_roV (As := []) (rest := []) ⟨hx, hb, hml, hown, hts⟩ (c_X3_repeatsAsked l D cI q0 (seN q sg cnt) (gfN q sg cnt) (akN q sg cnt) (gnN q sg cnt)) (cwV 0 hts gX4_repeatsIfSent_X3_repeatsAsked rfl rfl rfl hd_X3_repeatsAsked ⟨Nat.le_of_ble_eq_true rfl, Nat.le_of_ble_eq_true rfl⟩) ⟨hK, hE⟩ (hP.sub (ws' := [(q0, .inr (3, [.int (nI (seN q sg cnt)), .int (nI (gfN q sg cnt)), .int (nI (akN q sg cnt)), .int (nI (gnN q sg cnt))]))]) [2] rfl) (va_recv hK hP (ci := 3) (q0 := 2) rfl rfl) rfl hl.1 rfl (Nat.le_of_ble_eq_true rfl) dX4_repeatsIfSent_26 (Nat.zero_le _) (Nat.zero_le _) ?_
  exact mu_iret hA hQ hx hb hr hlocks () hP hS rfl dX4_repeatsIfSent_29
