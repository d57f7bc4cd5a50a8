theorem hd_X5_digest : yX5_digest.cls = RX5 ∧ yX5_digest.cls ≠ "java/lang/invoke/MethodHandle" ∧ yX5_digest.cls ≠ "java/lang/invoke/VarHandle" ∧ (parseMethodDescriptor yX5_digest.desc).map (fun d => d.parameters.length) = some 0 := by decide +kernel
abbrev rm_X5_digest : Room := { frames := 4, cells := 1, slots := 18, locals := 93 }
set_option maxHeartbeats 4000000 in
set_option maxRecDepth 100000 in
theorem c_X5_digest (l : Launch) (D : va_G) (cI : ClassId) (y0 : Nat) (y1 : Nat) (y2 : Nat) (y3 : Nat) (y4 : Nat) (y5 : Nat) (th : Nat) (k : Nat) (n : Nat) (q : Nat) (sg : Nat) (rp : Int32) (lo : Int32) (ea : Int32) (go : Nat) (ak : Nat) (gn : Nat) (gf : Nat) (K : Nat → Int32) (Lm : Nat → Nat) (t : Nat → Nat) (f : Nat → Nat) (C : Nat → Int32) (hn : n ≤ 24) (hk : k ≤ 8) (hLk : ∀ c, c < k → 2 ≤ Lm c ∧ Lm c ≤ 4) (hKk : ∀ c, c < k → ¬ K c = -1) (ht : ∀ j, j < n → t j < 10) (hq : q ≤ 9) (hsg : sg ≤ 60000) (sz : Nat) : MA l yX5_digest wsX5_digest rm_X5_digest D cI [(y0, .inr (5, [.int (nI th), .int (nI k), .ref y1, .ref y2, .int (nI n), .ref y3, .int (nI q), .int (nI sg), .int rp, .int lo, .int ea, .ref y4, .ref y5, .int (nI go), .int (nI ak), .int (nI gn), .int (nI gf)])), (y1, .inl (cI, 9, .inl K)), (y2, .inl (cI, 9, .inl (nA Lm))), (y3, .inl (cI, 24, .inl (nA t))), (y4, .inl (cI, 25, .inl (nA f))), (y5, .inl (cI, 24, .inl C))] [.ref y0] sz (fun (v9 : Option Value) (u9 : Int32 × Int32 × Int32 × Int32 × (Nat → Int32) × (Nat → Nat) × (Nat → Nat) × (Nat → Int32) × Nat × Nat × Nat × Nat) => v9 = some (.long (dgM t n K Lm k q sg rp lo ea u9.1 u9.2.1 u9.2.2.1 u9.2.2.2.1)) ∧ (ulM t n K Lm k u9.1) ∧ (bmR t n K Lm k 2 u9.2.1) ∧ (bmR t n K Lm k 3 u9.2.2.1) ∧ (bmR t n K Lm k 4 u9.2.2.2.1) ∧ (∀ c, c < k → u9.2.2.2.2.1 c = K c ∧ u9.2.2.2.2.2.1 c = Lm c)) (fun (u9 : Int32 × Int32 × Int32 × Int32 × (Nat → Int32) × (Nat → Nat) × (Nat → Nat) × (Nat → Int32) × Nat × Nat × Nat × Nat) => [(y0, .inr (5, [.int (nI 0), .int (nI k), .ref y1, .ref y2, .int (nI n), .ref y3, .int (nI q), .int (nI sg), .int rp, .int lo, .int ea, .ref y4, .ref y5, .int (nI u9.2.2.2.2.2.2.2.2.1), .int (nI u9.2.2.2.2.2.2.2.2.2.1), .int (nI u9.2.2.2.2.2.2.2.2.2.2.1), .int (nI u9.2.2.2.2.2.2.2.2.2.2.2)])), (y1, .inl (cI, 9, .inl u9.2.2.2.2.1)), (y2, .inl (cI, 9, .inl (nA u9.2.2.2.2.2.1))), (y3, .inl (cI, 24, .inl (nA t))), (y4, .inl (cI, 25, .inl (nA u9.2.2.2.2.2.2.1))), (y5, .inl (cI, 24, .inl u9.2.2.2.2.2.2.2.1))]) 1 18 := by
  refine ma_of (C := RX5) (cc := cX5_digest) (maxL := 8) (ret := (some .long)) rfl (by decide) rfl (Nat.le_of_ble_eq_true rfl) ?_
  intro pg ev sv mi ag bl mt cd ls Q A hA hQ hx hb hr hlocks hml hts hown _ hK hE hD0 H locs hP hS hl
  have hD : zDD A [y0, y1, y2, y3, y4, y5] := zDD.of hD0
  have hP : va_P D vwCl [(y0, .inr (5, [.int (nI th), .int (nI k), .ref y1, .ref y2, .int (nI n), .ref y3, .int (nI q), .int (nI sg), .int rp, .int lo, .int ea, .ref y4, .ref y5, .int (nI go), .int (nI ak), .int (nI gn), .int (nI gf)])), (y1, .inl (cI, 9, .inl K)), (y2, .inl (cI, 9, .inl (nA Lm))), (y3, .inl (cI, 24, .inl (nA t))), (y4, .inl (cI, 25, .inl (nA f))), (y5, .inl (cI, 24, .inl C))] H := hP
  have hl : lv_has ls 8 [(0, .ref y0)] := hl
  have f_29 := hts (.fieldLink RX5 29 "TelegraphDeskModel" "thrown" "I") (by decide +kernel)
  have f_36 := hts (.fieldLink RX5 36 "TelegraphDeskModel" "codes" "I") (by decide +kernel)
  have f_39 := hts (.fieldLink RX5 39 "TelegraphDeskModel" "words" "I") (by decide +kernel)
  have f_78 := hts (.fieldLink RX5 78 "TelegraphDeskModel" "sent" "I") (by decide +kernel)
  have f_119 := hts (.fieldLink RX5 119 "TelegraphDeskModel" "repeats" "I") (by decide +kernel)
  have f_122 := hts (.fieldLink RX5 122 "TelegraphDeskModel" "lost" "I") (by decide +kernel)
  have f_113 := hts (.fieldLink RX5 113 "TelegraphDeskModel" "earned" "I") (by decide +kernel)
  have f_26 := hts (.fieldLink RX5 26 "TelegraphDeskModel" "first" "[I") (by decide +kernel)
  have f_16 := hts (.fieldLink RX5 16 "TelegraphDeskModel" "type" "[I") (by decide +kernel)
  have f_13 := hts (.fieldLink RX5 13 "TelegraphDeskModel" "length" "[I") (by decide +kernel)
  have hi_5 : ∀ w ∈ wsX50, w ∈ wsX5_digest := by decide +kernel
  refine lv_aload_n hx hb dX5_digest_0 rfl (lv_at hl 0 rfl) ?_
  refine lv_iconst (v := nI 0) hx hb dX5_digest_1 ci_0 ?_
  refine z_put hx hb hts hi_5 tyX5 tyX5_ok nmX5 hown hK hP hD rfl hS 0 rfl rfl 0 (by decide) f_29 (fun _ h => h) rfl (by decide +kernel) (Nat.le_of_ble_eq_true rfl) dX5_digest_2 (fun H locs hP hS => ?_)
  have hP : va_P D vwCl [(y0, .inr (5, [.int (nI 0), .int (nI k), .ref y1, .ref y2, .int (nI n), .ref y3, .int (nI q), .int (nI sg), .int rp, .int lo, .int ea, .ref y4, .ref y5, .int (nI go), .int (nI ak), .int (nI gn), .int (nI gf)])), (y1, .inl (cI, 9, .inl K)), (y2, .inl (cI, 9, .inl (nA Lm))), (y3, .inl (cI, 24, .inl (nA t))), (y4, .inl (cI, 25, .inl (nA f))), (y5, .inl (cI, 24, .inl C))] H := hP
  refine z_bipush (n := 18) hx hb rfl (by decide) dX5_digest_5 ?_
  refine z_newa hx hb (hts (.arrayClass .int) (by decide +kernel)) hK hP (hD.to rfl) hS hA (by decide) (Nat.le_of_ble_eq_true rfl) (Nat.le_of_ble_eq_true rfl) dX5_digest_7 (fun a_7 H hP hD hS => ?_)
  have hP : va_P D vwCl [(y0, .inr (5, [.int (nI 0), .int (nI k), .ref y1, .ref y2, .int (nI n), .ref y3, .int (nI q), .int (nI sg), .int rp, .int lo, .int ea, .ref y4, .ref y5, .int (nI go), .int (nI ak), .int (nI gn), .int (nI gf)])), (y1, .inl (cI, 9, .inl K)), (y2, .inl (cI, 9, .inl (nA Lm))), (y3, .inl (cI, 24, .inl (nA t))), (y4, .inl (cI, 25, .inl (nA f))), (y5, .inl (cI, 24, .inl C)), (a_7, .inl (cI, 18, .inl (fun _ => 0)))] H := hP
  have hD : zDD A [y0, y1, y2, y3, y4, y5, a_7] := zDD.of hD
  refine lv_dup hx hb dX5_digest_9 rfl ?_
  refine lv_iconst (v := nI 0) hx hb dX5_digest_10 ci_0 ?_
  refine lv_aload_n hx hb dX5_digest_11 rfl (lv_at hl 0 rfl) ?_
  refine va_get (v := .int (nI k)) hx hb hts hi_5 hown hK hP 0 rfl rfl 1 (by decide) f_36 (fun _ h => h) rfl dX5_digest_12 ?_
  refine z_iast hx hb hK hP hD rfl hS 6 0 rfl rfl (by omega) (by decide) dX5_digest_15 (fun H locs hP hS => ?_)
  have hP : va_P D vwCl [(y0, .inr (5, [.int (nI 0), .int (nI k), .ref y1, .ref y2, .int (nI n), .ref y3, .int (nI q), .int (nI sg), .int rp, .int lo, .int ea, .ref y4, .ref y5, .int (nI go), .int (nI ak), .int (nI gn), .int (nI gf)])), (y1, .inl (cI, 9, .inl K)), (y2, .inl (cI, 9, .inl (nA Lm))), (y3, .inl (cI, 24, .inl (nA t))), (y4, .inl (cI, 25, .inl (nA f))), (y5, .inl (cI, 24, .inl C)), (a_7, .inl (cI, 18, .inl (upd (fun _ => 0) 0 (nI k))))] H := hP
  refine lv_dup hx hb dX5_digest_16 rfl ?_
  refine lv_iconst (v := nI 1) hx hb dX5_digest_17 ci_1 ?_
  refine lv_aload_n hx hb dX5_digest_18 rfl (lv_at hl 0 rfl) ?_
  refine va_get (v := .int (nI n)) hx hb hts hi_5 hown hK hP 0 rfl rfl 4 (by decide) f_39 (fun _ h => h) rfl dX5_digest_19 ?_
  refine z_iast hx hb hK hP hD rfl hS 6 0 rfl rfl (by omega) (by decide) dX5_digest_22 (fun H locs hP hS => ?_)
  have hP : va_P D vwCl [(y0, .inr (5, [.int (nI 0), .int (nI k), .ref y1, .ref y2, .int (nI n), .ref y3, .int (nI q), .int (nI sg), .int rp, .int lo, .int ea, .ref y4, .ref y5, .int (nI go), .int (nI ak), .int (nI gn), .int (nI gf)])), (y1, .inl (cI, 9, .inl K)), (y2, .inl (cI, 9, .inl (nA Lm))), (y3, .inl (cI, 24, .inl (nA t))), (y4, .inl (cI, 25, .inl (nA f))), (y5, .inl (cI, 24, .inl C)), (a_7, .inl (cI, 18, .inl (upd (upd (fun _ => 0) 0 (nI k)) 1 (nI n))))] H := hP
  refine lv_dup hx hb dX5_digest_23 rfl ?_
  refine lv_iconst (v := nI 2) hx hb dX5_digest_24 ci_2 ?_
  refine lv_aload_n hx hb dX5_digest_25 rfl (lv_at hl 0 rfl) ?_
  refine z_muV (As := []) (rest := [.int (nI 2), .ref a_7, .ref a_7]) ⟨hx, hb, hml, hown, hts⟩ (c_X5_all l D cI y0 y1 y2 y3 y4 y5 0 k n q sg rp lo ea go ak gn gf K Lm t f C (by first | assumption | omega) (by first | assumption | omega) (by first | assumption | omega) (by first | assumption | omega)) (cwV 0 hts gX5_digest_X5_all rfl rfl rfl hd_X5_all ⟨Nat.le_of_ble_eq_true rfl, Nat.le_of_ble_eq_true rfl⟩) ⟨hK, hE⟩ hP hD rfl hS [0, 1, 2, 3, 4, 5] (by decide) rfl (fun _ => rfl) (va_recv hK hP (ci := 5) (q0 := 0) rfl rfl) rfl hl.1 rfl (Nat.le_of_ble_eq_true rfl) dX5_digest_26 (Nat.le_of_ble_eq_true rfl) (Nat.le_of_ble_eq_true rfl) (fun v9 u9 H locs hp hP hS => ?_)
  obtain ⟨f2_26, C2_26⟩ := u9
  obtain ⟨rfl, hom_26⟩ := hp
  try dsimp only at hom_26
  have hP : va_P D vwCl [(y0, .inr (5, [.int (nI 0), .int (nI k), .ref y1, .ref y2, .int (nI n), .ref y3, .int (nI q), .int (nI sg), .int rp, .int lo, .int ea, .ref y4, .ref y5, .int (nI go), .int (nI ak), .int (nI gn), .int (nI gf)])), (y1, .inl (cI, 9, .inl K)), (y2, .inl (cI, 9, .inl (nA Lm))), (y3, .inl (cI, 24, .inl (nA t))), (y4, .inl (cI, 25, .inl (nA f2_26))), (y5, .inl (cI, 24, .inl C2_26)), (a_7, .inl (cI, 18, .inl (upd (upd (fun _ => 0) 0 (nI k)) 1 (nI n))))] H := hP
  refine W.eq (g2 := F0 mi 29 ls [.int (nI (gM t n K Lm k (-1))), .int (nI 2), .ref a_7, .ref a_7]) rfl ?_
  refine z_iast hx hb hK hP hD rfl hS 6 0 rfl rfl (by omega) (by decide) dX5_digest_29 (fun H locs hP hS => ?_)
  have hP : va_P D vwCl [(y0, .inr (5, [.int (nI 0), .int (nI k), .ref y1, .ref y2, .int (nI n), .ref y3, .int (nI q), .int (nI sg), .int rp, .int lo, .int ea, .ref y4, .ref y5, .int (nI go), .int (nI ak), .int (nI gn), .int (nI gf)])), (y1, .inl (cI, 9, .inl K)), (y2, .inl (cI, 9, .inl (nA Lm))), (y3, .inl (cI, 24, .inl (nA t))), (y4, .inl (cI, 25, .inl (nA f2_26))), (y5, .inl (cI, 24, .inl C2_26)), (a_7, .inl (cI, 18, .inl (upd (upd (upd (fun _ => 0) 0 (nI k)) 1 (nI n)) 2 (nI (gM t n K Lm k (-1))))))] H := hP
  refine lv_dup hx hb dX5_digest_30 rfl ?_
  refine lv_iconst (v := nI 3) hx hb dX5_digest_31 ci_3 ?_
  refine lv_aload_n hx hb dX5_digest_32 rfl (lv_at hl 0 rfl) ?_
  refine z_muV (As := []) (rest := [.int (nI 3), .ref a_7, .ref a_7]) ⟨hx, hb, hml, hown, hts⟩ (c_X5_count l D cI y0 y1 y2 y3 y4 y5 0 k n q sg rp lo ea go ak gn gf K Lm t f2_26 C2_26 (by first | assumption | omega) (by first | assumption | omega) (by first | assumption | omega) (by first | assumption | omega) (by first | assumption | omega)) (cwV 0 hts gX5_digest_X5_count rfl rfl rfl hd_X5_count ⟨Nat.le_of_ble_eq_true rfl, Nat.le_of_ble_eq_true rfl⟩) ⟨hK, hE⟩ hP hD rfl hS [0, 1, 2, 3, 4, 5] (by decide) rfl (fun _ => rfl) (va_recv hK hP (ci := 5) (q0 := 0) rfl rfl) rfl hl.1 rfl (Nat.le_of_ble_eq_true rfl) dX5_digest_33 (Nat.le_of_ble_eq_true rfl) (Nat.le_of_ble_eq_true rfl) (fun v9 u9 H locs hp hP hS => ?_)
  obtain ⟨f2_33, C2_33⟩ := u9
  obtain rfl := hp
  have hP : va_P D vwCl [(y0, .inr (5, [.int (nI 0), .int (nI k), .ref y1, .ref y2, .int (nI n), .ref y3, .int (nI q), .int (nI sg), .int rp, .int lo, .int ea, .ref y4, .ref y5, .int (nI go), .int (nI ak), .int (nI gn), .int (nI gf)])), (y1, .inl (cI, 9, .inl K)), (y2, .inl (cI, 9, .inl (nA Lm))), (y3, .inl (cI, 24, .inl (nA t))), (y4, .inl (cI, 25, .inl (nA f2_33))), (y5, .inl (cI, 24, .inl C2_33)), (a_7, .inl (cI, 18, .inl (upd (upd (upd (fun _ => 0) 0 (nI k)) 1 (nI n)) 2 (nI (gM t n K Lm k (-1))))))] H := hP
  refine W.eq (g2 := F0 mi 36 ls [.int (nI (ctM t n K Lm k)), .int (nI 3), .ref a_7, .ref a_7]) rfl ?_
  refine z_iast hx hb hK hP hD rfl hS 6 0 rfl rfl (by omega) (by decide) dX5_digest_36 (fun H locs hP hS => ?_)
  have hP : va_P D vwCl [(y0, .inr (5, [.int (nI 0), .int (nI k), .ref y1, .ref y2, .int (nI n), .ref y3, .int (nI q), .int (nI sg), .int rp, .int lo, .int ea, .ref y4, .ref y5, .int (nI go), .int (nI ak), .int (nI gn), .int (nI gf)])), (y1, .inl (cI, 9, .inl K)), (y2, .inl (cI, 9, .inl (nA Lm))), (y3, .inl (cI, 24, .inl (nA t))), (y4, .inl (cI, 25, .inl (nA f2_33))), (y5, .inl (cI, 24, .inl C2_33)), (a_7, .inl (cI, 18, .inl (upd (upd (upd (upd (fun _ => 0) 0 (nI k)) 1 (nI n)) 2 (nI (gM t n K Lm k (-1)))) 3 (nI (ctM t n K Lm k)))))] H := hP
  refine lv_dup hx hb dX5_digest_37 rfl ?_
  refine lv_iconst (v := nI 4) hx hb dX5_digest_38 ci_4 ?_
  refine lv_aload_n hx hb dX5_digest_39 rfl (lv_at hl 0 rfl) ?_
  refine z_muV (As := []) (rest := [.int (nI 4), .ref a_7, .ref a_7]) ⟨hx, hb, hml, hown, hts⟩ (c_X5_priceNow l D cI y0 y1 y2 y3 y4 y5 0 k n q sg rp lo ea go ak gn gf K Lm t f2_33 C2_33 (by first | assumption | omega) (by first | assumption | omega) (by first | assumption | omega) (by first | assumption | omega) (by first | assumption | omega)) (cwV 0 hts gX5_digest_X5_priceNow rfl rfl rfl hd_X5_priceNow ⟨Nat.le_of_ble_eq_true rfl, Nat.le_of_ble_eq_true rfl⟩) ⟨hK, hE⟩ hP hD rfl hS [0, 1, 2, 3, 4, 5] (by decide) rfl (fun _ => rfl) (va_recv hK hP (ci := 5) (q0 := 0) rfl rfl) rfl hl.1 rfl (Nat.le_of_ble_eq_true rfl) dX5_digest_40 (Nat.le_of_ble_eq_true rfl) (Nat.le_of_ble_eq_true rfl) (fun v9 u9 H locs hp hP hS => ?_)
  obtain ⟨f2_40, C2_40⟩ := u9
  obtain rfl := hp
  have hP : va_P D vwCl [(y0, .inr (5, [.int (nI 0), .int (nI k), .ref y1, .ref y2, .int (nI n), .ref y3, .int (nI q), .int (nI sg), .int rp, .int lo, .int ea, .ref y4, .ref y5, .int (nI go), .int (nI ak), .int (nI gn), .int (nI gf)])), (y1, .inl (cI, 9, .inl K)), (y2, .inl (cI, 9, .inl (nA Lm))), (y3, .inl (cI, 24, .inl (nA t))), (y4, .inl (cI, 25, .inl (nA f2_40))), (y5, .inl (cI, 24, .inl C2_40)), (a_7, .inl (cI, 18, .inl (upd (upd (upd (upd (fun _ => 0) 0 (nI k)) 1 (nI n)) 2 (nI (gM t n K Lm k (-1)))) 3 (nI (ctM t n K Lm k)))))] H := hP
  refine W.eq (g2 := F0 mi 43 ls [.int (nI (costN n (ctM t n K Lm k))), .int (nI 4), .ref a_7, .ref a_7]) rfl ?_
  refine z_iast hx hb hK hP hD rfl hS 6 0 rfl rfl (by omega) (by decide) dX5_digest_43 (fun H locs hP hS => ?_)
  have hP : va_P D vwCl [(y0, .inr (5, [.int (nI 0), .int (nI k), .ref y1, .ref y2, .int (nI n), .ref y3, .int (nI q), .int (nI sg), .int rp, .int lo, .int ea, .ref y4, .ref y5, .int (nI go), .int (nI ak), .int (nI gn), .int (nI gf)])), (y1, .inl (cI, 9, .inl K)), (y2, .inl (cI, 9, .inl (nA Lm))), (y3, .inl (cI, 24, .inl (nA t))), (y4, .inl (cI, 25, .inl (nA f2_40))), (y5, .inl (cI, 24, .inl C2_40)), (a_7, .inl (cI, 18, .inl (upd (upd (upd (upd (upd (fun _ => 0) 0 (nI k)) 1 (nI n)) 2 (nI (gM t n K Lm k (-1)))) 3 (nI (ctM t n K Lm k))) 4 (nI (costN n (ctM t n K Lm k))))))] H := hP
  refine lv_dup hx hb dX5_digest_44 rfl ?_
  refine lv_iconst (v := nI 5) hx hb dX5_digest_45 ci_5 ?_
  refine lv_aload_n hx hb dX5_digest_46 rfl (lv_at hl 0 rfl) ?_
  refine z_roV (As := []) (rest := [.int (nI 5), .ref a_7, .ref a_7]) ⟨hx, hb, hml, hown, hts⟩ (c_X5_priceOfWords l D cI y0 y1 y2 y3 y4 y5 0 k n q sg rp lo ea go ak gn gf t (by first | assumption | omega) (by first | assumption | omega)) (cwV 0 hts gX5_digest_X5_priceOfWords rfl rfl rfl hd_X5_priceOfWords ⟨Nat.le_of_ble_eq_true rfl, Nat.le_of_ble_eq_true rfl⟩) ⟨hK, hE⟩ (hP.sub (ws' := [(y0, .inr (5, [.int (nI 0), .int (nI k), .ref y1, .ref y2, .int (nI n), .ref y3, .int (nI q), .int (nI sg), .int rp, .int lo, .int ea, .ref y4, .ref y5, .int (nI go), .int (nI ak), .int (nI gn), .int (nI gf)])), (y3, .inl (cI, 24, .inl (nA t)))]) [0, 3] rfl) (va_recv hK hP (ci := 5) (q0 := 0) rfl rfl) rfl hl.1 rfl (Nat.le_of_ble_eq_true rfl) dX5_digest_47 (Nat.le_of_ble_eq_true rfl) (Nat.le_of_ble_eq_true rfl) ?_
  refine lv_aload_n hx hb dX5_digest_50 rfl (lv_at hl 0 rfl) ?_
  refine z_muV (As := []) (rest := [.int (nI (costN n (sN (fun j => wc (t j)) n))), .int (nI 5), .ref a_7, .ref a_7]) ⟨hx, hb, hml, hown, hts⟩ (c_X5_priceNow l D cI y0 y1 y2 y3 y4 y5 0 k n q sg rp lo ea go ak gn gf K Lm t f2_40 C2_40 (by first | assumption | omega) (by first | assumption | omega) (by first | assumption | omega) (by first | assumption | omega) (by first | assumption | omega)) (cwV 0 hts gX5_digest_X5_priceNow rfl rfl rfl hd_X5_priceNow ⟨Nat.le_of_ble_eq_true rfl, Nat.le_of_ble_eq_true rfl⟩) ⟨hK, hE⟩ hP hD rfl hS [0, 1, 2, 3, 4, 5] (by decide) rfl (fun _ => rfl) (va_recv hK hP (ci := 5) (q0 := 0) rfl rfl) rfl hl.1 rfl (Nat.le_of_ble_eq_true rfl) dX5_digest_51 (Nat.le_of_ble_eq_true rfl) (Nat.le_of_ble_eq_true rfl) (fun v9 u9 H locs hp hP hS => ?_)
  obtain ⟨f2_51, C2_51⟩ := u9
  obtain rfl := hp
  have hP : va_P D vwCl [(y0, .inr (5, [.int (nI 0), .int (nI k), .ref y1, .ref y2, .int (nI n), .ref y3, .int (nI q), .int (nI sg), .int rp, .int lo, .int ea, .ref y4, .ref y5, .int (nI go), .int (nI ak), .int (nI gn), .int (nI gf)])), (y1, .inl (cI, 9, .inl K)), (y2, .inl (cI, 9, .inl (nA Lm))), (y3, .inl (cI, 24, .inl (nA t))), (y4, .inl (cI, 25, .inl (nA f2_51))), (y5, .inl (cI, 24, .inl C2_51)), (a_7, .inl (cI, 18, .inl (upd (upd (upd (upd (upd (fun _ => 0) 0 (nI k)) 1 (nI n)) 2 (nI (gM t n K Lm k (-1)))) 3 (nI (ctM t n K Lm k))) 4 (nI (costN n (ctM t n K Lm k))))))] H := hP
  refine W.eq (g2 := F0 mi 54 ls [.int (nI (costN n (ctM t n K Lm k))), .int (nI (costN n (sN (fun j => wc (t j)) n))), .int (nI 5), .ref a_7, .ref a_7]) rfl ?_
  refine lv_isub hx hb dX5_digest_54 ?_
  refine z_iast hx hb hK hP hD rfl hS 6 0 rfl rfl (by omega) (by decide) dX5_digest_55 (fun H locs hP hS => ?_)
  have hP : va_P D vwCl [(y0, .inr (5, [.int (nI 0), .int (nI k), .ref y1, .ref y2, .int (nI n), .ref y3, .int (nI q), .int (nI sg), .int rp, .int lo, .int ea, .ref y4, .ref y5, .int (nI go), .int (nI ak), .int (nI gn), .int (nI gf)])), (y1, .inl (cI, 9, .inl K)), (y2, .inl (cI, 9, .inl (nA Lm))), (y3, .inl (cI, 24, .inl (nA t))), (y4, .inl (cI, 25, .inl (nA f2_51))), (y5, .inl (cI, 24, .inl C2_51)), (a_7, .inl (cI, 18, .inl (upd (upd (upd (upd (upd (upd (fun _ => 0) 0 (nI k)) 1 (nI n)) 2 (nI (gM t n K Lm k (-1)))) 3 (nI (ctM t n K Lm k))) 4 (nI (costN n (ctM t n K Lm k)))) 5 (nI (costN n (sN (fun j => wc (t j)) n)) - nI (costN n (ctM t n K Lm k))))))] H := hP
  refine lv_dup hx hb dX5_digest_56 rfl ?_
  refine z_bipush (n := 6) hx hb rfl (by decide) dX5_digest_57 ?_
  refine lv_aload_n hx hb dX5_digest_59 rfl (lv_at hl 0 rfl) ?_
  refine va_get (v := .int (nI sg)) hx hb hts hi_5 hown hK hP 0 rfl rfl 7 (by decide) f_78 (fun _ h => h) rfl dX5_digest_60 ?_
  refine z_iast hx hb hK hP hD rfl hS 6 0 rfl rfl (by omega) (by decide) dX5_digest_63 (fun H locs hP hS => ?_)
  have hP : va_P D vwCl [(y0, .inr (5, [.int (nI 0), .int (nI k), .ref y1, .ref y2, .int (nI n), .ref y3, .int (nI q), .int (nI sg), .int rp, .int lo, .int ea, .ref y4, .ref y5, .int (nI go), .int (nI ak), .int (nI gn), .int (nI gf)])), (y1, .inl (cI, 9, .inl K)), (y2, .inl (cI, 9, .inl (nA Lm))), (y3, .inl (cI, 24, .inl (nA t))), (y4, .inl (cI, 25, .inl (nA f2_51))), (y5, .inl (cI, 24, .inl C2_51)), (a_7, .inl (cI, 18, .inl (upd (upd (upd (upd (upd (upd (upd (fun _ => 0) 0 (nI k)) 1 (nI n)) 2 (nI (gM t n K Lm k (-1)))) 3 (nI (ctM t n K Lm k))) 4 (nI (costN n (ctM t n K Lm k)))) 5 (nI (costN n (sN (fun j => wc (t j)) n)) - nI (costN n (ctM t n K Lm k)))) 6 (nI sg))))] H := hP
  refine lv_dup hx hb dX5_digest_64 rfl ?_
  refine z_bipush (n := 7) hx hb rfl (by decide) dX5_digest_65 ?_
  refine lv_aload_n hx hb dX5_digest_67 rfl (lv_at hl 0 rfl) ?_
  refine va_get (v := .int rp) hx hb hts hi_5 hown hK hP 0 rfl rfl 8 (by decide) f_119 (fun _ h => h) rfl dX5_digest_68 ?_
  refine z_iast hx hb hK hP hD rfl hS 6 0 rfl rfl (by omega) (by decide) dX5_digest_71 (fun H locs hP hS => ?_)
  have hP : va_P D vwCl [(y0, .inr (5, [.int (nI 0), .int (nI k), .ref y1, .ref y2, .int (nI n), .ref y3, .int (nI q), .int (nI sg), .int rp, .int lo, .int ea, .ref y4, .ref y5, .int (nI go), .int (nI ak), .int (nI gn), .int (nI gf)])), (y1, .inl (cI, 9, .inl K)), (y2, .inl (cI, 9, .inl (nA Lm))), (y3, .inl (cI, 24, .inl (nA t))), (y4, .inl (cI, 25, .inl (nA f2_51))), (y5, .inl (cI, 24, .inl C2_51)), (a_7, .inl (cI, 18, .inl (upd (upd (upd (upd (upd (upd (upd (upd (fun _ => 0) 0 (nI k)) 1 (nI n)) 2 (nI (gM t n K Lm k (-1)))) 3 (nI (ctM t n K Lm k))) 4 (nI (costN n (ctM t n K Lm k)))) 5 (nI (costN n (sN (fun j => wc (t j)) n)) - nI (costN n (ctM t n K Lm k)))) 6 (nI sg)) 7 rp)))] H := hP
  refine lv_dup hx hb dX5_digest_72 rfl ?_
  refine z_bipush (n := 8) hx hb rfl (by decide) dX5_digest_73 ?_
  refine lv_aload_n hx hb dX5_digest_75 rfl (lv_at hl 0 rfl) ?_
  refine va_get (v := .int lo) hx hb hts hi_5 hown hK hP 0 rfl rfl 9 (by decide) f_122 (fun _ h => h) rfl dX5_digest_76 ?_
  refine z_iast hx hb hK hP hD rfl hS 6 0 rfl rfl (by omega) (by decide) dX5_digest_79 (fun H locs hP hS => ?_)
  have hP : va_P D vwCl [(y0, .inr (5, [.int (nI 0), .int (nI k), .ref y1, .ref y2, .int (nI n), .ref y3, .int (nI q), .int (nI sg), .int rp, .int lo, .int ea, .ref y4, .ref y5, .int (nI go), .int (nI ak), .int (nI gn), .int (nI gf)])), (y1, .inl (cI, 9, .inl K)), (y2, .inl (cI, 9, .inl (nA Lm))), (y3, .inl (cI, 24, .inl (nA t))), (y4, .inl (cI, 25, .inl (nA f2_51))), (y5, .inl (cI, 24, .inl C2_51)), (a_7, .inl (cI, 18, .inl (upd (upd (upd (upd (upd (upd (upd (upd (upd (fun _ => 0) 0 (nI k)) 1 (nI n)) 2 (nI (gM t n K Lm k (-1)))) 3 (nI (ctM t n K Lm k))) 4 (nI (costN n (ctM t n K Lm k)))) 5 (nI (costN n (sN (fun j => wc (t j)) n)) - nI (costN n (ctM t n K Lm k)))) 6 (nI sg)) 7 rp) 8 lo)))] H := hP
  refine lv_dup hx hb dX5_digest_80 rfl ?_
  refine z_bipush (n := 9) hx hb rfl (by decide) dX5_digest_81 ?_
  refine lv_aload_n hx hb dX5_digest_83 rfl (lv_at hl 0 rfl) ?_
  refine va_get (v := .int ea) hx hb hts hi_5 hown hK hP 0 rfl rfl 10 (by decide) f_113 (fun _ h => h) rfl dX5_digest_84 ?_
  refine z_iast hx hb hK hP hD rfl hS 6 0 rfl rfl (by omega) (by decide) dX5_digest_87 (fun H locs hP hS => ?_)
  have hP : va_P D vwCl [(y0, .inr (5, [.int (nI 0), .int (nI k), .ref y1, .ref y2, .int (nI n), .ref y3, .int (nI q), .int (nI sg), .int rp, .int lo, .int ea, .ref y4, .ref y5, .int (nI go), .int (nI ak), .int (nI gn), .int (nI gf)])), (y1, .inl (cI, 9, .inl K)), (y2, .inl (cI, 9, .inl (nA Lm))), (y3, .inl (cI, 24, .inl (nA t))), (y4, .inl (cI, 25, .inl (nA f2_51))), (y5, .inl (cI, 24, .inl C2_51)), (a_7, .inl (cI, 18, .inl (upd (upd (upd (upd (upd (upd (upd (upd (upd (upd (fun _ => 0) 0 (nI k)) 1 (nI n)) 2 (nI (gM t n K Lm k (-1)))) 3 (nI (ctM t n K Lm k))) 4 (nI (costN n (ctM t n K Lm k)))) 5 (nI (costN n (sN (fun j => wc (t j)) n)) - nI (costN n (ctM t n K Lm k)))) 6 (nI sg)) 7 rp) 8 lo) 9 ea)))] H := hP
  refine lv_dup hx hb dX5_digest_88 rfl ?_
  refine z_bipush (n := 10) hx hb rfl (by decide) dX5_digest_89 ?_
  refine lv_aload_n hx hb dX5_digest_91 rfl (lv_at hl 0 rfl) ?_
  refine z_roV (As := []) (rest := [.int (nI 10), .ref a_7, .ref a_7]) ⟨hx, hb, hml, hown, hts⟩ (c_X5_until l D cI y0 y1 y2 y3 y4 y5 0 k n q sg rp lo ea go ak gn gf (by first | assumption | omega) (by first | assumption | omega)) (cwV 0 hts gX5_digest_X5_until rfl rfl rfl hd_X5_until ⟨Nat.le_of_ble_eq_true rfl, Nat.le_of_ble_eq_true rfl⟩) ⟨hK, hE⟩ (hP.sub (ws' := [(y0, .inr (5, [.int (nI 0), .int (nI k), .ref y1, .ref y2, .int (nI n), .ref y3, .int (nI q), .int (nI sg), .int rp, .int lo, .int ea, .ref y4, .ref y5, .int (nI go), .int (nI ak), .int (nI gn), .int (nI gf)]))]) [0] rfl) (va_recv hK hP (ci := 5) (q0 := 0) rfl rfl) rfl hl.1 rfl (Nat.le_of_ble_eq_true rfl) dX5_digest_92 (Nat.le_of_ble_eq_true rfl) (Nat.le_of_ble_eq_true rfl) ?_
  refine z_iast hx hb hK hP hD rfl hS 6 0 rfl rfl (by omega) (by decide) dX5_digest_95 (fun H locs hP hS => ?_)
  have hP : va_P D vwCl [(y0, .inr (5, [.int (nI 0), .int (nI k), .ref y1, .ref y2, .int (nI n), .ref y3, .int (nI q), .int (nI sg), .int rp, .int lo, .int ea, .ref y4, .ref y5, .int (nI go), .int (nI ak), .int (nI gn), .int (nI gf)])), (y1, .inl (cI, 9, .inl K)), (y2, .inl (cI, 9, .inl (nA Lm))), (y3, .inl (cI, 24, .inl (nA t))), (y4, .inl (cI, 25, .inl (nA f2_51))), (y5, .inl (cI, 24, .inl C2_51)), (a_7, .inl (cI, 18, .inl (upd (upd (upd (upd (upd (upd (upd (upd (upd (upd (upd (fun _ => 0) 0 (nI k)) 1 (nI n)) 2 (nI (gM t n K Lm k (-1)))) 3 (nI (ctM t n K Lm k))) 4 (nI (costN n (ctM t n K Lm k)))) 5 (nI (costN n (sN (fun j => wc (t j)) n)) - nI (costN n (ctM t n K Lm k)))) 6 (nI sg)) 7 rp) 8 lo) 9 ea) 10 (nI (utN q sg)))))] H := hP
  refine lv_dup hx hb dX5_digest_96 rfl ?_
  refine z_bipush (n := 11) hx hb rfl (by decide) dX5_digest_97 ?_
  refine lv_aload_n hx hb dX5_digest_99 rfl (lv_at hl 0 rfl) ?_
  refine z_muV (As := []) (rest := [.int (nI 11), .ref a_7, .ref a_7]) ⟨hx, hb, hml, hown, hts⟩ (c_X5_garbled l D cI y0 y1 y2 y3 y4 y5 0 k n q sg rp lo ea go ak gn gf K Lm t f2_51 C2_51 (by first | assumption | omega) (by first | assumption | omega) (by first | assumption | omega) (by first | assumption | omega) (by first | assumption | omega) (by first | assumption | omega)) (cwV 0 hts gX5_digest_X5_garbled rfl rfl rfl hd_X5_garbled ⟨Nat.le_of_ble_eq_true rfl, Nat.le_of_ble_eq_true rfl⟩) ⟨hK, hE⟩ hP hD rfl hS [0, 1, 2, 3, 4, 5] (by decide) rfl (fun _ => rfl) (va_recv hK hP (ci := 5) (q0 := 0) rfl rfl) rfl hl.1 rfl (Nat.le_of_ble_eq_true rfl) dX5_digest_100 (Nat.le_of_ble_eq_true rfl) (Nat.le_of_ble_eq_true rfl) (fun v9 u9 H locs hp hP hS => ?_)
  obtain ⟨f2_100, C2_100, go2_100, ak2_100, gn2_100, gf2_100⟩ := u9
  obtain rfl := hp
  have hP : va_P D vwCl [(y0, .inr (5, [.int (nI 0), .int (nI k), .ref y1, .ref y2, .int (nI n), .ref y3, .int (nI q), .int (nI sg), .int rp, .int lo, .int ea, .ref y4, .ref y5, .int (nI go2_100), .int (nI ak2_100), .int (nI gn2_100), .int (nI gf2_100)])), (y1, .inl (cI, 9, .inl K)), (y2, .inl (cI, 9, .inl (nA Lm))), (y3, .inl (cI, 24, .inl (nA t))), (y4, .inl (cI, 25, .inl (nA f2_100))), (y5, .inl (cI, 24, .inl C2_100)), (a_7, .inl (cI, 18, .inl (upd (upd (upd (upd (upd (upd (upd (upd (upd (upd (upd (fun _ => 0) 0 (nI k)) 1 (nI n)) 2 (nI (gM t n K Lm k (-1)))) 3 (nI (ctM t n K Lm k))) 4 (nI (costN n (ctM t n K Lm k)))) 5 (nI (costN n (sN (fun j => wc (t j)) n)) - nI (costN n (ctM t n K Lm k)))) 6 (nI sg)) 7 rp) 8 lo) 9 ea) 10 (nI (utN q sg)))))] H := hP
  refine W.eq (g2 := F0 mi 103 ls [.int (nI (gfN q sg (gM t n K Lm k (-1)))), .int (nI 11), .ref a_7, .ref a_7]) rfl ?_
  refine z_iast hx hb hK hP hD rfl hS 6 0 rfl rfl (by omega) (by decide) dX5_digest_103 (fun H locs hP hS => ?_)
  have hP : va_P D vwCl [(y0, .inr (5, [.int (nI 0), .int (nI k), .ref y1, .ref y2, .int (nI n), .ref y3, .int (nI q), .int (nI sg), .int rp, .int lo, .int ea, .ref y4, .ref y5, .int (nI go2_100), .int (nI ak2_100), .int (nI gn2_100), .int (nI gf2_100)])), (y1, .inl (cI, 9, .inl K)), (y2, .inl (cI, 9, .inl (nA Lm))), (y3, .inl (cI, 24, .inl (nA t))), (y4, .inl (cI, 25, .inl (nA f2_100))), (y5, .inl (cI, 24, .inl C2_100)), (a_7, .inl (cI, 18, .inl (upd (upd (upd (upd (upd (upd (upd (upd (upd (upd (upd (upd (fun _ => 0) 0 (nI k)) 1 (nI n)) 2 (nI (gM t n K Lm k (-1)))) 3 (nI (ctM t n K Lm k))) 4 (nI (costN n (ctM t n K Lm k)))) 5 (nI (costN n (sN (fun j => wc (t j)) n)) - nI (costN n (ctM t n K Lm k)))) 6 (nI sg)) 7 rp) 8 lo) 9 ea) 10 (nI (utN q sg))) 11 (nI (gfN q sg (gM t n K Lm k (-1)))))))] H := hP
  refine lv_dup hx hb dX5_digest_104 rfl ?_
  refine z_bipush (n := 12) hx hb rfl (by decide) dX5_digest_105 ?_
  refine lv_aload_n hx hb dX5_digest_107 rfl (lv_at hl 0 rfl) ?_
  refine z_muV (As := []) (rest := [.int (nI 12), .ref a_7, .ref a_7]) ⟨hx, hb, hml, hown, hts⟩ (c_X5_again l D cI y0 y1 y2 y3 y4 y5 0 k n q sg rp lo ea go2_100 ak2_100 gn2_100 gf2_100 K Lm t f2_100 C2_100 (by first | assumption | omega) (by first | assumption | omega) (by first | assumption | omega) (by first | assumption | omega) (by first | assumption | omega) (by first | assumption | omega)) (cwV 0 hts gX5_digest_X5_again rfl rfl rfl hd_X5_again ⟨Nat.le_of_ble_eq_true rfl, Nat.le_of_ble_eq_true rfl⟩) ⟨hK, hE⟩ hP hD rfl hS [0, 1, 2, 3, 4, 5] (by decide) rfl (fun _ => rfl) (va_recv hK hP (ci := 5) (q0 := 0) rfl rfl) rfl hl.1 rfl (Nat.le_of_ble_eq_true rfl) dX5_digest_108 (Nat.le_of_ble_eq_true rfl) (Nat.le_of_ble_eq_true rfl) (fun v9 u9 H locs hp hP hS => ?_)
  obtain ⟨f2_108, C2_108, go2_108, ak2_108, gn2_108, gf2_108⟩ := u9
  obtain rfl := hp
  have hP : va_P D vwCl [(y0, .inr (5, [.int (nI 0), .int (nI k), .ref y1, .ref y2, .int (nI n), .ref y3, .int (nI q), .int (nI sg), .int rp, .int lo, .int ea, .ref y4, .ref y5, .int (nI go2_108), .int (nI ak2_108), .int (nI gn2_108), .int (nI gf2_108)])), (y1, .inl (cI, 9, .inl K)), (y2, .inl (cI, 9, .inl (nA Lm))), (y3, .inl (cI, 24, .inl (nA t))), (y4, .inl (cI, 25, .inl (nA f2_108))), (y5, .inl (cI, 24, .inl C2_108)), (a_7, .inl (cI, 18, .inl (upd (upd (upd (upd (upd (upd (upd (upd (upd (upd (upd (upd (fun _ => 0) 0 (nI k)) 1 (nI n)) 2 (nI (gM t n K Lm k (-1)))) 3 (nI (ctM t n K Lm k))) 4 (nI (costN n (ctM t n K Lm k)))) 5 (nI (costN n (sN (fun j => wc (t j)) n)) - nI (costN n (ctM t n K Lm k)))) 6 (nI sg)) 7 rp) 8 lo) 9 ea) 10 (nI (utN q sg))) 11 (nI (gfN q sg (gM t n K Lm k (-1)))))))] H := hP
  refine W.eq (g2 := F0 mi 111 ls [.int (nI (akN q sg (gM t n K Lm k (-1)))), .int (nI 12), .ref a_7, .ref a_7]) rfl ?_
  refine z_iast hx hb hK hP hD rfl hS 6 0 rfl rfl (by omega) (by decide) dX5_digest_111 (fun H locs hP hS => ?_)
  have hP : va_P D vwCl [(y0, .inr (5, [.int (nI 0), .int (nI k), .ref y1, .ref y2, .int (nI n), .ref y3, .int (nI q), .int (nI sg), .int rp, .int lo, .int ea, .ref y4, .ref y5, .int (nI go2_108), .int (nI ak2_108), .int (nI gn2_108), .int (nI gf2_108)])), (y1, .inl (cI, 9, .inl K)), (y2, .inl (cI, 9, .inl (nA Lm))), (y3, .inl (cI, 24, .inl (nA t))), (y4, .inl (cI, 25, .inl (nA f2_108))), (y5, .inl (cI, 24, .inl C2_108)), (a_7, .inl (cI, 18, .inl (upd (upd (upd (upd (upd (upd (upd (upd (upd (upd (upd (upd (upd (fun _ => 0) 0 (nI k)) 1 (nI n)) 2 (nI (gM t n K Lm k (-1)))) 3 (nI (ctM t n K Lm k))) 4 (nI (costN n (ctM t n K Lm k)))) 5 (nI (costN n (sN (fun j => wc (t j)) n)) - nI (costN n (ctM t n K Lm k)))) 6 (nI sg)) 7 rp) 8 lo) 9 ea) 10 (nI (utN q sg))) 11 (nI (gfN q sg (gM t n K Lm k (-1))))) 12 (nI (akN q sg (gM t n K Lm k (-1)))))))] H := hP
  refine lv_dup hx hb dX5_digest_112 rfl ?_
  refine z_bipush (n := 13) hx hb rfl (by decide) dX5_digest_113 ?_
  refine lv_aload_n hx hb dX5_digest_115 rfl (lv_at hl 0 rfl) ?_
  refine z_muV (As := []) (rest := [.int (nI 13), .ref a_7, .ref a_7]) ⟨hx, hb, hml, hown, hts⟩ (c_X5_wanted l D cI y0 y1 y2 y3 y4 y5 0 k n q sg rp lo ea go2_108 ak2_108 gn2_108 gf2_108 K Lm t f2_108 C2_108 (by first | assumption | omega) (by first | assumption | omega) (by first | assumption | omega) (by first | assumption | omega) (by first | assumption | omega)) (cwV 0 hts gX5_digest_X5_wanted rfl rfl rfl hd_X5_wanted ⟨Nat.le_of_ble_eq_true rfl, Nat.le_of_ble_eq_true rfl⟩) ⟨hK, hE⟩ hP hD rfl hS [0, 1, 2, 3, 4, 5] (by decide) rfl (fun _ => rfl) (va_recv hK hP (ci := 5) (q0 := 0) rfl rfl) rfl hl.1 rfl (Nat.le_of_ble_eq_true rfl) dX5_digest_116 (Nat.le_of_ble_eq_true rfl) (Nat.le_of_ble_eq_true rfl) (fun v9 u9 H locs hp hP hS => ?_)
  obtain ⟨f2_116, C2_116, go2_116, ak2_116, gn2_116, gf2_116⟩ := u9
  obtain rfl := hp
  have hP : va_P D vwCl [(y0, .inr (5, [.int (nI 0), .int (nI k), .ref y1, .ref y2, .int (nI n), .ref y3, .int (nI q), .int (nI sg), .int rp, .int lo, .int ea, .ref y4, .ref y5, .int (nI go2_116), .int (nI ak2_116), .int (nI gn2_116), .int (nI gf2_116)])), (y1, .inl (cI, 9, .inl K)), (y2, .inl (cI, 9, .inl (nA Lm))), (y3, .inl (cI, 24, .inl (nA t))), (y4, .inl (cI, 25, .inl (nA f2_116))), (y5, .inl (cI, 24, .inl C2_116)), (a_7, .inl (cI, 18, .inl (upd (upd (upd (upd (upd (upd (upd (upd (upd (upd (upd (upd (upd (fun _ => 0) 0 (nI k)) 1 (nI n)) 2 (nI (gM t n K Lm k (-1)))) 3 (nI (ctM t n K Lm k))) 4 (nI (costN n (ctM t n K Lm k)))) 5 (nI (costN n (sN (fun j => wc (t j)) n)) - nI (costN n (ctM t n K Lm k)))) 6 (nI sg)) 7 rp) 8 lo) 9 ea) 10 (nI (utN q sg))) 11 (nI (gfN q sg (gM t n K Lm k (-1))))) 12 (nI (akN q sg (gM t n K Lm k (-1)))))))] H := hP
  refine W.eq (g2 := F0 mi 119 ls [.int (qwF sg (gM t n K Lm k (-1)) 9 1), .int (nI 13), .ref a_7, .ref a_7]) rfl ?_
  refine z_iast hx hb hK hP hD rfl hS 6 0 rfl rfl (by omega) (by decide) dX5_digest_119 (fun H locs hP hS => ?_)
  have hP : va_P D vwCl [(y0, .inr (5, [.int (nI 0), .int (nI k), .ref y1, .ref y2, .int (nI n), .ref y3, .int (nI q), .int (nI sg), .int rp, .int lo, .int ea, .ref y4, .ref y5, .int (nI go2_116), .int (nI ak2_116), .int (nI gn2_116), .int (nI gf2_116)])), (y1, .inl (cI, 9, .inl K)), (y2, .inl (cI, 9, .inl (nA Lm))), (y3, .inl (cI, 24, .inl (nA t))), (y4, .inl (cI, 25, .inl (nA f2_116))), (y5, .inl (cI, 24, .inl C2_116)), (a_7, .inl (cI, 18, .inl (upd (upd (upd (upd (upd (upd (upd (upd (upd (upd (upd (upd (upd (upd (fun _ => 0) 0 (nI k)) 1 (nI n)) 2 (nI (gM t n K Lm k (-1)))) 3 (nI (ctM t n K Lm k))) 4 (nI (costN n (ctM t n K Lm k)))) 5 (nI (costN n (sN (fun j => wc (t j)) n)) - nI (costN n (ctM t n K Lm k)))) 6 (nI sg)) 7 rp) 8 lo) 9 ea) 10 (nI (utN q sg))) 11 (nI (gfN q sg (gM t n K Lm k (-1))))) 12 (nI (akN q sg (gM t n K Lm k (-1))))) 13 (qwF sg (gM t n K Lm k (-1)) 9 1))))] H := hP
  refine lv_dup hx hb dX5_digest_120 rfl ?_
  refine z_bipush (n := 14) hx hb rfl (by decide) dX5_digest_121 ?_
  refine lv_aload_n hx hb dX5_digest_123 rfl (lv_at hl 0 rfl) ?_
  refine z_muV (As := []) (rest := [.int (nI 14), .ref a_7, .ref a_7]) ⟨hx, hb, hml, hown, hts⟩ (c_X5_useless l D cI y0 y1 y2 y3 y4 y5 0 k n q sg rp lo ea go2_116 ak2_116 gn2_116 gf2_116 K Lm t f2_116 C2_116 (by first | assumption | omega) (by first | assumption | omega) (by first | assumption | omega) (by first | assumption | omega)) (cwV 0 hts gX5_digest_X5_useless rfl rfl rfl hd_X5_useless ⟨Nat.le_of_ble_eq_true rfl, Nat.le_of_ble_eq_true rfl⟩) ⟨hK, hE⟩ hP hD rfl hS [0, 1, 2, 3, 4, 5] (by decide) rfl (fun _ => rfl) (va_recv hK hP (ci := 5) (q0 := 0) rfl rfl) rfl hl.1 rfl (Nat.le_of_ble_eq_true rfl) dX5_digest_124 (Nat.le_of_ble_eq_true rfl) (Nat.le_of_ble_eq_true rfl) (fun v9 u9 H locs hp hP hS => ?_)
  obtain ⟨r_124, f2_124, C2_124⟩ := u9
  obtain ⟨rfl, hul_124⟩ := hp
  try dsimp only at hul_124
  have hP : va_P D vwCl [(y0, .inr (5, [.int (nI 0), .int (nI k), .ref y1, .ref y2, .int (nI n), .ref y3, .int (nI q), .int (nI sg), .int rp, .int lo, .int ea, .ref y4, .ref y5, .int (nI go2_116), .int (nI ak2_116), .int (nI gn2_116), .int (nI gf2_116)])), (y1, .inl (cI, 9, .inl K)), (y2, .inl (cI, 9, .inl (nA Lm))), (y3, .inl (cI, 24, .inl (nA t))), (y4, .inl (cI, 25, .inl (nA f2_124))), (y5, .inl (cI, 24, .inl C2_124)), (a_7, .inl (cI, 18, .inl (upd (upd (upd (upd (upd (upd (upd (upd (upd (upd (upd (upd (upd (upd (fun _ => 0) 0 (nI k)) 1 (nI n)) 2 (nI (gM t n K Lm k (-1)))) 3 (nI (ctM t n K Lm k))) 4 (nI (costN n (ctM t n K Lm k)))) 5 (nI (costN n (sN (fun j => wc (t j)) n)) - nI (costN n (ctM t n K Lm k)))) 6 (nI sg)) 7 rp) 8 lo) 9 ea) 10 (nI (utN q sg))) 11 (nI (gfN q sg (gM t n K Lm k (-1))))) 12 (nI (akN q sg (gM t n K Lm k (-1))))) 13 (qwF sg (gM t n K Lm k (-1)) 9 1))))] H := hP
  refine W.eq (g2 := F0 mi 127 ls [.int r_124, .int (nI 14), .ref a_7, .ref a_7]) rfl ?_
  refine z_iast hx hb hK hP hD rfl hS 6 0 rfl rfl (by omega) (by decide) dX5_digest_127 (fun H locs hP hS => ?_)
  have hP : va_P D vwCl [(y0, .inr (5, [.int (nI 0), .int (nI k), .ref y1, .ref y2, .int (nI n), .ref y3, .int (nI q), .int (nI sg), .int rp, .int lo, .int ea, .ref y4, .ref y5, .int (nI go2_116), .int (nI ak2_116), .int (nI gn2_116), .int (nI gf2_116)])), (y1, .inl (cI, 9, .inl K)), (y2, .inl (cI, 9, .inl (nA Lm))), (y3, .inl (cI, 24, .inl (nA t))), (y4, .inl (cI, 25, .inl (nA f2_124))), (y5, .inl (cI, 24, .inl C2_124)), (a_7, .inl (cI, 18, .inl (upd (upd (upd (upd (upd (upd (upd (upd (upd (upd (upd (upd (upd (upd (upd (fun _ => 0) 0 (nI k)) 1 (nI n)) 2 (nI (gM t n K Lm k (-1)))) 3 (nI (ctM t n K Lm k))) 4 (nI (costN n (ctM t n K Lm k)))) 5 (nI (costN n (sN (fun j => wc (t j)) n)) - nI (costN n (ctM t n K Lm k)))) 6 (nI sg)) 7 rp) 8 lo) 9 ea) 10 (nI (utN q sg))) 11 (nI (gfN q sg (gM t n K Lm k (-1))))) 12 (nI (akN q sg (gM t n K Lm k (-1))))) 13 (qwF sg (gM t n K Lm k (-1)) 9 1)) 14 r_124)))] H := hP
  refine lv_dup hx hb dX5_digest_128 rfl ?_
  refine z_bipush (n := 15) hx hb rfl (by decide) dX5_digest_129 ?_
  refine lv_aload_n hx hb dX5_digest_131 rfl (lv_at hl 0 rfl) ?_
  refine lv_iconst (v := nI 2) hx hb dX5_digest_132 ci_2 ?_
  refine z_muV (As := [.int (nI 2)]) (rest := [.int (nI 15), .ref a_7, .ref a_7]) ⟨hx, hb, hml, hown, hts⟩ (c_X5_bestNew l D cI y0 y1 y2 y3 y4 y5 0 k n q sg rp lo ea go2_116 ak2_116 gn2_116 gf2_116 K Lm t f2_124 C2_124 2 (by first | assumption | omega) (by first | assumption | omega) (by first | assumption | omega) (by first | assumption | omega) (by first | assumption | omega) ⟨by decide, by decide⟩) (cwV 1 hts gX5_digest_X5_bestNew rfl rfl rfl hd_X5_bestNew ⟨Nat.le_of_ble_eq_true rfl, Nat.le_of_ble_eq_true rfl⟩) ⟨hK, hE⟩ hP hD rfl hS [0, 1, 2, 3, 4, 5] (by decide) rfl (fun _ => rfl) (va_recv hK hP (ci := 5) (q0 := 0) rfl rfl) rfl hl.1 rfl (Nat.le_of_ble_eq_true rfl) dX5_digest_133 (Nat.le_of_ble_eq_true rfl) (Nat.le_of_ble_eq_true rfl) (fun v9 u9 H locs hp hP hS => ?_)
  obtain ⟨r_133, K2_133, Lm2_133, f2_133, C2_133⟩ := u9
  obtain ⟨rfl, hbm_133, hKL_133⟩ := hp
  try dsimp only at hbm_133 hKL_133
  have hP : va_P D vwCl [(y0, .inr (5, [.int (nI 0), .int (nI k), .ref y1, .ref y2, .int (nI n), .ref y3, .int (nI q), .int (nI sg), .int rp, .int lo, .int ea, .ref y4, .ref y5, .int (nI go2_116), .int (nI ak2_116), .int (nI gn2_116), .int (nI gf2_116)])), (y1, .inl (cI, 9, .inl K2_133)), (y2, .inl (cI, 9, .inl (nA Lm2_133))), (y3, .inl (cI, 24, .inl (nA t))), (y4, .inl (cI, 25, .inl (nA f2_133))), (y5, .inl (cI, 24, .inl C2_133)), (a_7, .inl (cI, 18, .inl (upd (upd (upd (upd (upd (upd (upd (upd (upd (upd (upd (upd (upd (upd (upd (fun _ => 0) 0 (nI k)) 1 (nI n)) 2 (nI (gM t n K Lm k (-1)))) 3 (nI (ctM t n K Lm k))) 4 (nI (costN n (ctM t n K Lm k)))) 5 (nI (costN n (sN (fun j => wc (t j)) n)) - nI (costN n (ctM t n K Lm k)))) 6 (nI sg)) 7 rp) 8 lo) 9 ea) 10 (nI (utN q sg))) 11 (nI (gfN q sg (gM t n K Lm k (-1))))) 12 (nI (akN q sg (gM t n K Lm k (-1))))) 13 (qwF sg (gM t n K Lm k (-1)) 9 1)) 14 r_124)))] H := hP
  refine W.eq (g2 := F0 mi 136 ls [.int r_133, .int (nI 15), .ref a_7, .ref a_7]) rfl ?_
  refine z_iast hx hb hK hP hD rfl hS 6 0 rfl rfl (by omega) (by decide) dX5_digest_136 (fun H locs hP hS => ?_)
  have hP : va_P D vwCl [(y0, .inr (5, [.int (nI 0), .int (nI k), .ref y1, .ref y2, .int (nI n), .ref y3, .int (nI q), .int (nI sg), .int rp, .int lo, .int ea, .ref y4, .ref y5, .int (nI go2_116), .int (nI ak2_116), .int (nI gn2_116), .int (nI gf2_116)])), (y1, .inl (cI, 9, .inl K2_133)), (y2, .inl (cI, 9, .inl (nA Lm2_133))), (y3, .inl (cI, 24, .inl (nA t))), (y4, .inl (cI, 25, .inl (nA f2_133))), (y5, .inl (cI, 24, .inl C2_133)), (a_7, .inl (cI, 18, .inl (upd (upd (upd (upd (upd (upd (upd (upd (upd (upd (upd (upd (upd (upd (upd (upd (fun _ => 0) 0 (nI k)) 1 (nI n)) 2 (nI (gM t n K Lm k (-1)))) 3 (nI (ctM t n K Lm k))) 4 (nI (costN n (ctM t n K Lm k)))) 5 (nI (costN n (sN (fun j => wc (t j)) n)) - nI (costN n (ctM t n K Lm k)))) 6 (nI sg)) 7 rp) 8 lo) 9 ea) 10 (nI (utN q sg))) 11 (nI (gfN q sg (gM t n K Lm k (-1))))) 12 (nI (akN q sg (gM t n K Lm k (-1))))) 13 (qwF sg (gM t n K Lm k (-1)) 9 1)) 14 r_124) 15 r_133)))] H := hP
  refine lv_dup hx hb dX5_digest_137 rfl ?_
  refine z_bipush (n := 16) hx hb rfl (by decide) dX5_digest_138 ?_
  have hL1 := kl_L hLk hKL_133
  have hK1 := kl_K hKk hKL_133
  refine lv_aload_n hx hb dX5_digest_140 rfl (lv_at hl 0 rfl) ?_
  refine lv_iconst (v := nI 3) hx hb dX5_digest_141 ci_3 ?_
  refine z_muV (As := [.int (nI 3)]) (rest := [.int (nI 16), .ref a_7, .ref a_7]) ⟨hx, hb, hml, hown, hts⟩ (c_X5_bestNew l D cI y0 y1 y2 y3 y4 y5 0 k n q sg rp lo ea go2_116 ak2_116 gn2_116 gf2_116 K2_133 Lm2_133 t f2_133 C2_133 3 (by first | assumption | omega) (by first | assumption | omega) (by first | assumption | omega) (by first | assumption | omega) (by first | assumption | omega) ⟨by decide, by decide⟩) (cwV 1 hts gX5_digest_X5_bestNew rfl rfl rfl hd_X5_bestNew ⟨Nat.le_of_ble_eq_true rfl, Nat.le_of_ble_eq_true rfl⟩) ⟨hK, hE⟩ hP hD rfl hS [0, 1, 2, 3, 4, 5] (by decide) rfl (fun _ => rfl) (va_recv hK hP (ci := 5) (q0 := 0) rfl rfl) rfl hl.1 rfl (Nat.le_of_ble_eq_true rfl) dX5_digest_142 (Nat.le_of_ble_eq_true rfl) (Nat.le_of_ble_eq_true rfl) (fun v9 u9 H locs hp hP hS => ?_)
  obtain ⟨r_142, K2_142, Lm2_142, f2_142, C2_142⟩ := u9
  obtain ⟨rfl, hbm_142, hKL_142⟩ := hp
  try dsimp only at hbm_142 hKL_142
  have hP : va_P D vwCl [(y0, .inr (5, [.int (nI 0), .int (nI k), .ref y1, .ref y2, .int (nI n), .ref y3, .int (nI q), .int (nI sg), .int rp, .int lo, .int ea, .ref y4, .ref y5, .int (nI go2_116), .int (nI ak2_116), .int (nI gn2_116), .int (nI gf2_116)])), (y1, .inl (cI, 9, .inl K2_142)), (y2, .inl (cI, 9, .inl (nA Lm2_142))), (y3, .inl (cI, 24, .inl (nA t))), (y4, .inl (cI, 25, .inl (nA f2_142))), (y5, .inl (cI, 24, .inl C2_142)), (a_7, .inl (cI, 18, .inl (upd (upd (upd (upd (upd (upd (upd (upd (upd (upd (upd (upd (upd (upd (upd (upd (fun _ => 0) 0 (nI k)) 1 (nI n)) 2 (nI (gM t n K Lm k (-1)))) 3 (nI (ctM t n K Lm k))) 4 (nI (costN n (ctM t n K Lm k)))) 5 (nI (costN n (sN (fun j => wc (t j)) n)) - nI (costN n (ctM t n K Lm k)))) 6 (nI sg)) 7 rp) 8 lo) 9 ea) 10 (nI (utN q sg))) 11 (nI (gfN q sg (gM t n K Lm k (-1))))) 12 (nI (akN q sg (gM t n K Lm k (-1))))) 13 (qwF sg (gM t n K Lm k (-1)) 9 1)) 14 r_124) 15 r_133)))] H := hP
  refine W.eq (g2 := F0 mi 145 ls [.int r_142, .int (nI 16), .ref a_7, .ref a_7]) rfl ?_
  refine z_iast hx hb hK hP hD rfl hS 6 0 rfl rfl (by omega) (by decide) dX5_digest_145 (fun H locs hP hS => ?_)
  have hP : va_P D vwCl [(y0, .inr (5, [.int (nI 0), .int (nI k), .ref y1, .ref y2, .int (nI n), .ref y3, .int (nI q), .int (nI sg), .int rp, .int lo, .int ea, .ref y4, .ref y5, .int (nI go2_116), .int (nI ak2_116), .int (nI gn2_116), .int (nI gf2_116)])), (y1, .inl (cI, 9, .inl K2_142)), (y2, .inl (cI, 9, .inl (nA Lm2_142))), (y3, .inl (cI, 24, .inl (nA t))), (y4, .inl (cI, 25, .inl (nA f2_142))), (y5, .inl (cI, 24, .inl C2_142)), (a_7, .inl (cI, 18, .inl (upd (upd (upd (upd (upd (upd (upd (upd (upd (upd (upd (upd (upd (upd (upd (upd (upd (fun _ => 0) 0 (nI k)) 1 (nI n)) 2 (nI (gM t n K Lm k (-1)))) 3 (nI (ctM t n K Lm k))) 4 (nI (costN n (ctM t n K Lm k)))) 5 (nI (costN n (sN (fun j => wc (t j)) n)) - nI (costN n (ctM t n K Lm k)))) 6 (nI sg)) 7 rp) 8 lo) 9 ea) 10 (nI (utN q sg))) 11 (nI (gfN q sg (gM t n K Lm k (-1))))) 12 (nI (akN q sg (gM t n K Lm k (-1))))) 13 (qwF sg (gM t n K Lm k (-1)) 9 1)) 14 r_124) 15 r_133) 16 r_142)))] H := hP
  refine lv_dup hx hb dX5_digest_146 rfl ?_
  refine z_bipush (n := 17) hx hb rfl (by decide) dX5_digest_147 ?_
  have hKL2 := kl_t hKL_142 hKL_133
  have hL2 := kl_L hLk hKL2
  have hK2 := kl_K hKk hKL2
  refine lv_aload_n hx hb dX5_digest_149 rfl (lv_at hl 0 rfl) ?_
  refine lv_iconst (v := nI 4) hx hb dX5_digest_150 ci_4 ?_
  refine z_muV (As := [.int (nI 4)]) (rest := [.int (nI 17), .ref a_7, .ref a_7]) ⟨hx, hb, hml, hown, hts⟩ (c_X5_bestNew l D cI y0 y1 y2 y3 y4 y5 0 k n q sg rp lo ea go2_116 ak2_116 gn2_116 gf2_116 K2_142 Lm2_142 t f2_142 C2_142 4 (by first | assumption | omega) (by first | assumption | omega) (by first | assumption | omega) (by first | assumption | omega) (by first | assumption | omega) ⟨by decide, by decide⟩) (cwV 1 hts gX5_digest_X5_bestNew rfl rfl rfl hd_X5_bestNew ⟨Nat.le_of_ble_eq_true rfl, Nat.le_of_ble_eq_true rfl⟩) ⟨hK, hE⟩ hP hD rfl hS [0, 1, 2, 3, 4, 5] (by decide) rfl (fun _ => rfl) (va_recv hK hP (ci := 5) (q0 := 0) rfl rfl) rfl hl.1 rfl (Nat.le_of_ble_eq_true rfl) dX5_digest_151 (Nat.le_of_ble_eq_true rfl) (Nat.le_of_ble_eq_true rfl) (fun v9 u9 H locs hp hP hS => ?_)
  obtain ⟨r_151, K2_151, Lm2_151, f2_151, C2_151⟩ := u9
  obtain ⟨rfl, hbm_151, hKL_151⟩ := hp
  try dsimp only at hbm_151 hKL_151
  have hP : va_P D vwCl [(y0, .inr (5, [.int (nI 0), .int (nI k), .ref y1, .ref y2, .int (nI n), .ref y3, .int (nI q), .int (nI sg), .int rp, .int lo, .int ea, .ref y4, .ref y5, .int (nI go2_116), .int (nI ak2_116), .int (nI gn2_116), .int (nI gf2_116)])), (y1, .inl (cI, 9, .inl K2_151)), (y2, .inl (cI, 9, .inl (nA Lm2_151))), (y3, .inl (cI, 24, .inl (nA t))), (y4, .inl (cI, 25, .inl (nA f2_151))), (y5, .inl (cI, 24, .inl C2_151)), (a_7, .inl (cI, 18, .inl (upd (upd (upd (upd (upd (upd (upd (upd (upd (upd (upd (upd (upd (upd (upd (upd (upd (fun _ => 0) 0 (nI k)) 1 (nI n)) 2 (nI (gM t n K Lm k (-1)))) 3 (nI (ctM t n K Lm k))) 4 (nI (costN n (ctM t n K Lm k)))) 5 (nI (costN n (sN (fun j => wc (t j)) n)) - nI (costN n (ctM t n K Lm k)))) 6 (nI sg)) 7 rp) 8 lo) 9 ea) 10 (nI (utN q sg))) 11 (nI (gfN q sg (gM t n K Lm k (-1))))) 12 (nI (akN q sg (gM t n K Lm k (-1))))) 13 (qwF sg (gM t n K Lm k (-1)) 9 1)) 14 r_124) 15 r_133) 16 r_142)))] H := hP
  refine W.eq (g2 := F0 mi 154 ls [.int r_151, .int (nI 17), .ref a_7, .ref a_7]) rfl ?_
  refine z_iast hx hb hK hP hD rfl hS 6 0 rfl rfl (by omega) (by decide) dX5_digest_154 (fun H locs hP hS => ?_)
  have hP : va_P D vwCl [(y0, .inr (5, [.int (nI 0), .int (nI k), .ref y1, .ref y2, .int (nI n), .ref y3, .int (nI q), .int (nI sg), .int rp, .int lo, .int ea, .ref y4, .ref y5, .int (nI go2_116), .int (nI ak2_116), .int (nI gn2_116), .int (nI gf2_116)])), (y1, .inl (cI, 9, .inl K2_151)), (y2, .inl (cI, 9, .inl (nA Lm2_151))), (y3, .inl (cI, 24, .inl (nA t))), (y4, .inl (cI, 25, .inl (nA f2_151))), (y5, .inl (cI, 24, .inl C2_151)), (a_7, .inl (cI, 18, .inl (upd (upd (upd (upd (upd (upd (upd (upd (upd (upd (upd (upd (upd (upd (upd (upd (upd (upd (fun _ => 0) 0 (nI k)) 1 (nI n)) 2 (nI (gM t n K Lm k (-1)))) 3 (nI (ctM t n K Lm k))) 4 (nI (costN n (ctM t n K Lm k)))) 5 (nI (costN n (sN (fun j => wc (t j)) n)) - nI (costN n (ctM t n K Lm k)))) 6 (nI sg)) 7 rp) 8 lo) 9 ea) 10 (nI (utN q sg))) 11 (nI (gfN q sg (gM t n K Lm k (-1))))) 12 (nI (akN q sg (gM t n K Lm k (-1))))) 13 (qwF sg (gM t n K Lm k (-1)) 9 1)) 14 r_124) 15 r_133) 16 r_142) 17 r_151)))] H := hP
  have hKLf := kl_t hKL_151 hKL2
  have hLf := kl_L hLk hKLf
  have hKf := kl_K hKk hKLf
  have hb2 := hbm_133
  have hb3 := bmR_c hKL_133 hbm_142
  have hb4 := bmR_c hKL2 hbm_151
  obtain ⟨F9, hF9⟩ : ∃ F9, F9 = upd (upd (upd (upd (upd (upd (upd (upd (upd (upd (upd (upd (upd (upd (upd (upd (upd (upd (fun _ => 0) 0 (nI k)) 1 (nI n)) 2 (nI (gM t n K Lm k (-1)))) 3 (nI (ctM t n K Lm k))) 4 (nI (costN n (ctM t n K Lm k)))) 5 (nI (costN n (sN (fun j => wc (t j)) n)) - nI (costN n (ctM t n K Lm k)))) 6 (nI sg)) 7 rp) 8 lo) 9 ea) 10 (nI (utN q sg))) 11 (nI (gfN q sg (gM t n K Lm k (-1))))) 12 (nI (akN q sg (gM t n K Lm k (-1))))) 13 (qwF sg (gM t n K Lm k (-1)) 9 1)) 14 r_124) 15 r_133) 16 r_142) 17 r_151 := ⟨_, rfl⟩
  rw [← hF9] at hP
  have hP : va_P D vwCl [(y0, .inr (5, [.int (nI 0), .int (nI k), .ref y1, .ref y2, .int (nI n), .ref y3, .int (nI q), .int (nI sg), .int rp, .int lo, .int ea, .ref y4, .ref y5, .int (nI go2_116), .int (nI ak2_116), .int (nI gn2_116), .int (nI gf2_116)])), (y1, .inl (cI, 9, .inl K2_151)), (y2, .inl (cI, 9, .inl (nA Lm2_151))), (y3, .inl (cI, 24, .inl (nA t))), (y4, .inl (cI, 25, .inl (nA f2_151))), (y5, .inl (cI, 24, .inl C2_151)), (a_7, .inl (cI, 18, .inl F9))] H := hP
  have h18 : fL (fun i d => wn2 d (F9 i).toInt64) 2143 18 = dgl (dlM t n K Lm k q sg rp lo ea r_124 r_133 r_142 r_151) 2143 := by rw [hF9]; rfl
  refine lv_astore_n (lv' := [(1, .ref a_7), (0, .ref y0)]) hx hb dX5_digest_155 rfl hl (by decide) rfl (fun ls hl => ?_)
  refine lv_ldc2 hx hb hown (hts (.constantLong RX5 143 (2143)) (by decide +kernel)) dX5_digest_156 ?_
  refine lv_lstore_n (lv' := [(2, .long 2143), (1, .ref a_7), (0, .ref y0)]) hx hb dX5_digest_159 rfl hl (by decide) rfl (fun ls hl => ?_)
  refine lv_aload_n hx hb dX5_digest_160 rfl (lv_at hl 1 rfl) ?_
  refine lv_astore (lv' := [(4, .ref a_7), (2, .long 2143), (1, .ref a_7), (0, .ref y0)]) hx hb dX5_digest_161 hl (by decide) rfl (fun ls hl => ?_)
  refine lv_aload hx hb dX5_digest_163 (lv_at hl 0 rfl) ?_
  refine va_alen (v := nI 18) hx hb hK hP 6 0 rfl rfl rfl dX5_digest_165 ?_
  refine lv_istore (lv' := [(5, .int (nI 18)), (4, .ref a_7), (2, .long 2143), (1, .ref a_7), (0, .ref y0)]) hx hb dX5_digest_166 hl (by decide) rfl (fun ls hl => ?_)
  refine lv_iconst (v := nI 0) hx hb dX5_digest_168 ci_0 ?_
  refine lv_istore (lv' := [(6, .int (nI 0)), (5, .int (nI 18)), (4, .ref a_7), (2, .long 2143), (1, .ref a_7), (0, .ref y0)]) hx hb dX5_digest_169 hl (by decide) rfl (fun ls hl => ?_)
  have lp_171 : ∀ (Nf : Nat) (i1 : Nat) (hi1 : i1 ≤ 18) (hN : 18 - i1 < Nf) (H : Heap) (locs : List Loc) (ls : Array Slot), va_P D vwCl [(y0, .inr (5, [.int (nI 0), .int (nI k), .ref y1, .ref y2, .int (nI n), .ref y3, .int (nI q), .int (nI sg), .int rp, .int lo, .int ea, .ref y4, .ref y5, .int (nI go2_116), .int (nI ak2_116), .int (nI gn2_116), .int (nI gf2_116)])), (y1, .inl (cI, 9, .inl K2_151)), (y2, .inl (cI, 9, .inl (nA Lm2_151))), (y3, .inl (cI, 24, .inl (nA t))), (y4, .inl (cI, 25, .inl (nA f2_151))), (y5, .inl (cI, 24, .inl C2_151)), (a_7, .inl (cI, 18, .inl F9))] H → va_S A sv.heap H locs → lv_has ls 8 [(6, .int (nI i1)), (5, .int (nI 18)), (4, .ref a_7), (2, .long (fL (fun i d => wn2 d (F9 i).toInt64) 2143 i1)), (1, .ref a_7), (0, .ref y0)] → W pg l ev rm_X5_digest sv mi ag bl mt cd H locs 1 18 Q (F0 mi 171 ls []) := by
    intro Nf
    induction Nf with
    | zero =>
      intro i1 hi1 hN
      exact absurd hN (Nat.not_lt_zero _)
    | succ Nf ih_171 =>
      intro i1 hi1 hN H locs ls hP hS hl
      refine lv_iload hx hb dX5_digest_171 (lv_at hl 0 rfl) ?_
      refine lv_iload hx hb dX5_digest_173 (lv_at hl 1 rfl) ?_
      refine z_icmp_ge (tgt := 201) hx hb dX5_digest_175 (by decide) (by omega) (by omega) (fun c_175 => ?_) (fun c_175 => ?_)
      · rw [show i1 = 18 by omega, h18] at hl
        refine lv_iconst (v := nI 0) hx hb dX5_digest_201 ci_0 ?_
        refine lv_istore (lv' := [(4, .int (nI 0)), (6, .int (nI 18)), (5, .int (nI 18)), (2, .long (dgl (dlM t n K Lm k q sg rp lo ea r_124 r_133 r_142 r_151) 2143)), (1, .ref a_7), (0, .ref y0)]) hx hb dX5_digest_202 hl (by decide) rfl (fun ls hl => ?_)
        have lp_204 : ∀ (Nf : Nat) (i2 : Nat) (f1 : Nat → Nat) (C1 : Nat → Int32) (hi2 : i2 ≤ k) (hN : k - i2 < Nf) (H : Heap) (locs : List Loc) (ls : Array Slot), va_P D vwCl [(y0, .inr (5, [.int (nI 0), .int (nI k), .ref y1, .ref y2, .int (nI n), .ref y3, .int (nI q), .int (nI sg), .int rp, .int lo, .int ea, .ref y4, .ref y5, .int (nI go2_116), .int (nI ak2_116), .int (nI gn2_116), .int (nI gf2_116)])), (y1, .inl (cI, 9, .inl K2_151)), (y2, .inl (cI, 9, .inl (nA Lm2_151))), (y3, .inl (cI, 24, .inl (nA t))), (y4, .inl (cI, 25, .inl (nA f1))), (y5, .inl (cI, 24, .inl C1)), (a_7, .inl (cI, 18, .inl F9))] H → va_S A sv.heap H locs → lv_has ls 8 [(4, .int (nI i2)), (6, .int (nI 18)), (5, .int (nI 18)), (2, .long (fL (dcM t n K Lm k) (dgl (dlM t n K Lm k q sg rp lo ea r_124 r_133 r_142 r_151) 2143) i2)), (1, .ref a_7), (0, .ref y0)] → W pg l ev rm_X5_digest sv mi ag bl mt cd H locs 1 18 Q (F0 mi 204 ls []) := by
          intro Nf
          induction Nf with
          | zero =>
            intro i2 f1 C1 hi2 hN
            exact absurd hN (Nat.not_lt_zero _)
          | succ Nf ih_204 =>
            intro i2 f1 C1 hi2 hN H locs ls hP hS hl
            refine lv_iload hx hb dX5_digest_204 (lv_at hl 0 rfl) ?_
            refine lv_aload_n hx hb dX5_digest_206 rfl (lv_at hl 5 rfl) ?_
            refine va_get (v := .int (nI k)) hx hb hts hi_5 hown hK hP 0 rfl rfl 1 (by decide) f_36 (fun _ h => h) rfl dX5_digest_207 ?_
            refine z_icmp_ge (tgt := 248) hx hb dX5_digest_210 (by decide) (by omega) (by omega) (fun c_210 => ?_) (fun c_210 => ?_)
            · rw [show i2 = k by omega] at hl
              refine lv_iconst (v := nI 0) hx hb dX5_digest_248 ci_0 ?_
              refine lv_istore (lv' := [(4, .int (nI 0)), (6, .int (nI 18)), (5, .int (nI 18)), (2, .long (fL (dcM t n K Lm k) (dgl (dlM t n K Lm k q sg rp lo ea r_124 r_133 r_142 r_151) 2143) k)), (1, .ref a_7), (0, .ref y0)]) hx hb dX5_digest_249 hl (by decide) rfl (fun ls hl => ?_)
              have lp_251 : ∀ (Nf : Nat) (i3 : Nat) (hi3 : i3 ≤ n) (hN : n - i3 < Nf) (H : Heap) (locs : List Loc) (ls : Array Slot), va_P D vwCl [(y0, .inr (5, [.int (nI 0), .int (nI k), .ref y1, .ref y2, .int (nI n), .ref y3, .int (nI q), .int (nI sg), .int rp, .int lo, .int ea, .ref y4, .ref y5, .int (nI go2_116), .int (nI ak2_116), .int (nI gn2_116), .int (nI gf2_116)])), (y1, .inl (cI, 9, .inl K2_151)), (y2, .inl (cI, 9, .inl (nA Lm2_151))), (y3, .inl (cI, 24, .inl (nA t))), (y4, .inl (cI, 25, .inl (nA f1))), (y5, .inl (cI, 24, .inl C1)), (a_7, .inl (cI, 18, .inl F9))] H → va_S A sv.heap H locs → lv_has ls 8 [(4, .int (nI i3)), (6, .int (nI 18)), (5, .int (nI 18)), (2, .long (fL (dwN t) (fL (dcM t n K Lm k) (dgl (dlM t n K Lm k q sg rp lo ea r_124 r_133 r_142 r_151) 2143) k) i3)), (1, .ref a_7), (0, .ref y0)] → W pg l ev rm_X5_digest sv mi ag bl mt cd H locs 1 18 Q (F0 mi 251 ls []) := by
                intro Nf
                induction Nf with
                | zero =>
                  intro i3 hi3 hN
                  exact absurd hN (Nat.not_lt_zero _)
                | succ Nf ih_251 =>
                  intro i3 hi3 hN H locs ls hP hS hl
                  refine lv_iload hx hb dX5_digest_251 (lv_at hl 0 rfl) ?_
                  refine lv_aload_n hx hb dX5_digest_253 rfl (lv_at hl 5 rfl) ?_
                  refine va_get (v := .int (nI n)) hx hb hts hi_5 hown hK hP 0 rfl rfl 4 (by decide) f_39 (fun _ h => h) rfl dX5_digest_254 ?_
                  refine z_icmp_ge (tgt := 281) hx hb dX5_digest_257 (by decide) (by omega) (by omega) (fun c_257 => ?_) (fun c_257 => ?_)
                  · rw [show i3 = n by omega] at hl
                    refine lv_aload_n hx hb dX5_digest_281 rfl (lv_at hl 5 rfl) ?_
                    refine lv_aload_n hx hb dX5_digest_282 rfl (lv_at hl 5 rfl) ?_
                    refine va_get (v := .int (nI k)) hx hb hts hi_5 hown hK hP 0 rfl rfl 1 (by decide) f_36 (fun _ h => h) rfl dX5_digest_283 ?_
                    refine lv_iconst (v := -1) hx hb dX5_digest_286 ci_m1 ?_
                    refine z_muV (As := [.int (nI k), .int (-1)]) (rest := []) ⟨hx, hb, hml, hown, hts⟩ (c_X5_part l D cI y0 y1 y2 y3 y4 y5 0 k n q sg rp lo ea go2_116 ak2_116 gn2_116 gf2_116 K2_151 Lm2_151 t f1 C1 k (-1) (by first | assumption | omega) (by omega) (by first | assumption | omega) (by first | assumption | omega)) (cwV 2 hts gX5_digest_X5_part rfl rfl rfl hd_X5_part ⟨Nat.le_of_ble_eq_true rfl, Nat.le_of_ble_eq_true rfl⟩) ⟨hK, hE⟩ hP hD rfl hS [0, 1, 2, 3, 4, 5] (by decide) rfl (fun _ => rfl) (va_recv hK hP (ci := 5) (q0 := 0) rfl rfl) rfl hl.1 rfl (Nat.le_of_ble_eq_true rfl) dX5_digest_287 (Nat.le_of_ble_eq_true rfl) (Nat.le_of_ble_eq_true rfl) (fun v9 u9 H locs hp hP hS => ?_)
                    obtain ⟨f2_287, C2_287⟩ := u9
                    obtain ⟨rfl, hom_287⟩ := hp
                    try dsimp only at hom_287
                    have hP : va_P D vwCl [(y0, .inr (5, [.int (nI 0), .int (nI k), .ref y1, .ref y2, .int (nI n), .ref y3, .int (nI q), .int (nI sg), .int rp, .int lo, .int ea, .ref y4, .ref y5, .int (nI go2_116), .int (nI ak2_116), .int (nI gn2_116), .int (nI gf2_116)])), (y1, .inl (cI, 9, .inl K2_151)), (y2, .inl (cI, 9, .inl (nA Lm2_151))), (y3, .inl (cI, 24, .inl (nA t))), (y4, .inl (cI, 25, .inl (nA f2_287))), (y5, .inl (cI, 24, .inl C2_287)), (a_7, .inl (cI, 18, .inl F9))] H := hP
                    refine W.eq (g2 := F0 mi 290 ls []) rfl ?_
                    refine lv_iconst (v := nI 0) hx hb dX5_digest_290 ci_0 ?_
                    refine lv_istore (lv' := [(4, .int (nI 0)), (6, .int (nI 18)), (5, .int (nI 18)), (2, .long (fL (dwN t) (fL (dcM t n K Lm k) (dgl (dlM t n K Lm k q sg rp lo ea r_124 r_133 r_142 r_151) 2143) k) n)), (1, .ref a_7), (0, .ref y0)]) hx hb dX5_digest_291 hl (by decide) rfl (fun ls hl => ?_)
                    have lp_293 : ∀ (Nf : Nat) (g : Nat) (hp : posN (fM C2_287 Lm2_151) g ≤ n) (hps : ∀ j, j < g → posN (fM C2_287 Lm2_151) j < n) (hN : n - posN (fM C2_287 Lm2_151) g < Nf) (H : Heap) (locs : List Loc) (ls : Array Slot), va_P D vwCl [(y0, .inr (5, [.int (nI 0), .int (nI k), .ref y1, .ref y2, .int (nI n), .ref y3, .int (nI q), .int (nI sg), .int rp, .int lo, .int ea, .ref y4, .ref y5, .int (nI go2_116), .int (nI ak2_116), .int (nI gn2_116), .int (nI gf2_116)])), (y1, .inl (cI, 9, .inl K2_151)), (y2, .inl (cI, 9, .inl (nA Lm2_151))), (y3, .inl (cI, 24, .inl (nA t))), (y4, .inl (cI, 25, .inl (nA f2_287))), (y5, .inl (cI, 24, .inl C2_287)), (a_7, .inl (cI, 18, .inl F9))] H → va_S A sv.heap H locs → lv_has ls 8 [(4, .int (nI (posN (fM C2_287 Lm2_151) g))), (6, .int (nI 18)), (5, .int (nI 18)), (2, .long (fL (fun g d => wn2 (wn2 d (C2_287 (posN (fM C2_287 Lm2_151) g)).toInt64) (nI (posN (fM C2_287 Lm2_151) g)).toInt64) (fL (dwN t) (fL (dcM t n K Lm k) (dgl (dlM t n K Lm k q sg rp lo ea r_124 r_133 r_142 r_151) 2143) k) n) g)), (1, .ref a_7), (0, .ref y0)] → W pg l ev rm_X5_digest sv mi ag bl mt cd H locs 1 18 Q (F0 mi 293 ls []) := by
                      intro Nf
                      induction Nf with
                      | zero =>
                        intro g hp hps hN
                        exact absurd hN (Nat.not_lt_zero _)
                      | succ Nf ih_293 =>
                        intro g hp hps hN H locs ls hP hS hl
                        refine lv_iload hx hb dX5_digest_293 (lv_at hl 0 rfl) ?_
                        refine lv_aload_n hx hb dX5_digest_295 rfl (lv_at hl 5 rfl) ?_
                        refine va_get (v := .int (nI n)) hx hb hts hi_5 hown hK hP 0 rfl rfl 4 (by decide) f_39 (fun _ h => h) rfl dX5_digest_296 ?_
                        refine z_icmp_ge (tgt := 338) hx hb dX5_digest_299 (by decide) (by omega) (by omega) (fun c_299 => ?_) (fun c_299 => ?_)
                        · refine lv_lload_n hx hb dX5_digest_338 rfl (lv_at hl 3 rfl) ?_
                          exact ma_lret hQ hx hb hr hlocks (r_124, r_133, r_142, r_151, K2_151, Lm2_151, f2_287, C2_287, go2_116, ak2_116, gn2_116, gf2_116) (hP.sub [0, 1, 2, 3, 4, 5] rfl) ((hD.to (ws := [(y0, .inr (5, [.int (nI 0), .int (nI k), .ref y1, .ref y2, .int (nI n), .ref y3, .int (nI q), .int (nI sg), .int rp, .int lo, .int ea, .ref y4, .ref y5, .int (nI go2_116), .int (nI ak2_116), .int (nI gn2_116), .int (nI gf2_116)])), (y1, .inl (cI, 9, .inl K2_151)), (y2, .inl (cI, 9, .inl (nA Lm2_151))), (y3, .inl (cI, 24, .inl (nA t))), (y4, .inl (cI, 25, .inl (nA f2_287))), (y5, .inl (cI, 24, .inl C2_287)), (a_7, .inl (cI, 18, .inl F9))]) rfl).sub [0, 1, 2, 3, 4, 5] (by decide) rfl) hS ⟨(by rw [dp_eq hLf hKf hKLf hom_287 ⟨hps, by omega⟩]; rfl), hul_124, hb2, hb3, hb4, hKLf⟩ dX5_digest_339
                        · refine lv_lload_n hx hb dX5_digest_302 rfl (lv_at hl 3 rfl) ?_
                          refine lv_ldc2 hx hb hown (hts (.constantLong RX5 145 (31)) (by decide +kernel)) dX5_digest_303 ?_
                          refine lv_lmul hx hb dX5_digest_306 ?_
                          refine lv_aload_n hx hb dX5_digest_307 rfl (lv_at hl 5 rfl) ?_
                          refine va_get (v := .ref y5) hx hb hts hi_5 hown hK hP 0 rfl rfl 12 (by decide) f_26 (fun _ h => h) rfl dX5_digest_308 ?_
                          refine lv_iload hx hb dX5_digest_311 (lv_at hl 0 rfl) ?_
                          refine z_iald hx hb hK hP 5 0 rfl rfl (by omega) (by decide) dX5_digest_313 ?_
                          refine lv_i2l hx hb dX5_digest_314 rfl ?_
                          refine lv_ladd hx hb dX5_digest_315 ?_
                          refine lv_lstore_n (lv' := [(2, .long (((fL (fun g d => wn2 (wn2 d (C2_287 (posN (fM C2_287 Lm2_151) g)).toInt64) (nI (posN (fM C2_287 Lm2_151) g)).toInt64) (fL (dwN t) (fL (dcM t n K Lm k) (dgl (dlM t n K Lm k q sg rp lo ea r_124 r_133 r_142 r_151) 2143) k) n) g) * 31) + ((C2_287 (posN (fM C2_287 Lm2_151) g)).toInt64))), (4, .int (nI (posN (fM C2_287 Lm2_151) g))), (6, .int (nI 18)), (5, .int (nI 18)), (1, .ref a_7), (0, .ref y0)]) hx hb dX5_digest_316 rfl hl (by decide) rfl (fun ls hl => ?_)
                          refine lv_lload_n hx hb dX5_digest_317 rfl (lv_at hl 0 rfl) ?_
                          refine lv_ldc2 hx hb hown (hts (.constantLong RX5 145 (31)) (by decide +kernel)) dX5_digest_318 ?_
                          refine lv_lmul hx hb dX5_digest_321 ?_
                          refine lv_iload hx hb dX5_digest_322 (lv_at hl 1 rfl) ?_
                          refine lv_i2l hx hb dX5_digest_324 rfl ?_
                          refine lv_ladd hx hb dX5_digest_325 ?_
                          refine lv_lstore_n (lv' := [(2, .long (((((fL (fun g d => wn2 (wn2 d (C2_287 (posN (fM C2_287 Lm2_151) g)).toInt64) (nI (posN (fM C2_287 Lm2_151) g)).toInt64) (fL (dwN t) (fL (dcM t n K Lm k) (dgl (dlM t n K Lm k q sg rp lo ea r_124 r_133 r_142 r_151) 2143) k) n) g) * 31) + ((C2_287 (posN (fM C2_287 Lm2_151) g)).toInt64)) * 31) + ((nI (posN (fM C2_287 Lm2_151) g)).toInt64))), (4, .int (nI (posN (fM C2_287 Lm2_151) g))), (6, .int (nI 18)), (5, .int (nI 18)), (1, .ref a_7), (0, .ref y0)]) hx hb dX5_digest_326 rfl hl (by decide) rfl (fun ls hl => ?_)
                          refine lv_aload_n hx hb dX5_digest_327 rfl (lv_at hl 5 rfl) ?_
                          refine lv_iload hx hb dX5_digest_328 (lv_at hl 1 rfl) ?_
                          refine z_roV (As := [.int (nI (posN (fM C2_287 Lm2_151) g))]) (rest := []) ⟨hx, hb, hml, hown, hts⟩ (c_X5_next l D cI y0 y1 y2 y3 y4 y5 0 k n q sg rp lo ea go2_116 ak2_116 gn2_116 gf2_116 Lm2_151 C2_287 (posN (fM C2_287 Lm2_151) g) (by omega) (om_C (by omega) hom_287 _ c_299)) (cwV 1 hts gX5_digest_X5_next rfl rfl rfl hd_X5_next ⟨Nat.le_of_ble_eq_true rfl, Nat.le_of_ble_eq_true rfl⟩) ⟨hK, hE⟩ (hP.sub (ws' := [(y0, .inr (5, [.int (nI 0), .int (nI k), .ref y1, .ref y2, .int (nI n), .ref y3, .int (nI q), .int (nI sg), .int rp, .int lo, .int ea, .ref y4, .ref y5, .int (nI go2_116), .int (nI ak2_116), .int (nI gn2_116), .int (nI gf2_116)])), (y2, .inl (cI, 9, .inl (nA Lm2_151))), (y5, .inl (cI, 24, .inl C2_287))]) [0, 2, 5] rfl) (va_recv hK hP (ci := 5) (q0 := 0) rfl rfl) rfl hl.1 rfl (Nat.le_of_ble_eq_true rfl) dX5_digest_330 (Nat.le_of_ble_eq_true rfl) (Nat.le_of_ble_eq_true rfl) ?_
                          refine lv_istore (lv' := [(4, .int (nI ((posN (fM C2_287 Lm2_151) g) + fM C2_287 Lm2_151 (posN (fM C2_287 Lm2_151) g)))), (2, .long (((((fL (fun g d => wn2 (wn2 d (C2_287 (posN (fM C2_287 Lm2_151) g)).toInt64) (nI (posN (fM C2_287 Lm2_151) g)).toInt64) (fL (dwN t) (fL (dcM t n K Lm k) (dgl (dlM t n K Lm k q sg rp lo ea r_124 r_133 r_142 r_151) 2143) k) n) g) * 31) + ((C2_287 (posN (fM C2_287 Lm2_151) g)).toInt64)) * 31) + ((nI (posN (fM C2_287 Lm2_151) g)).toInt64))), (6, .int (nI 18)), (5, .int (nI 18)), (1, .ref a_7), (0, .ref y0)]) hx hb dX5_digest_333 hl (by decide) rfl (fun ls hl => ?_)
                          refine lv_goto (tgt := 293) hx hb dX5_digest_335 (by decide) ?_
                          have h9 := hom_287.2.2.2 _ (Nat.zero_le _) c_299
                          exact ih_293 (g + 1) (show posN (fM C2_287 Lm2_151) g + fM C2_287 Lm2_151 (posN (fM C2_287 Lm2_151) g) ≤ n from h9.2.1) (lt_s hps c_299) (show n - (posN (fM C2_287 Lm2_151) g + fM C2_287 Lm2_151 (posN (fM C2_287 Lm2_151) g)) < Nf by omega) H locs ls hP hS (lv_sub hl [0, 2, 3, 1, 4, 5] rfl)
                    exact lp_293 ((n - posN (fM C2_287 Lm2_151) 0) + 1) 0 (Nat.zero_le _) (fun _ h => absurd h (Nat.not_lt_zero _)) (Nat.lt_succ_self _) H locs ls hP hS hl
                  · refine lv_lload_n hx hb dX5_digest_260 rfl (lv_at hl 3 rfl) ?_
                    refine lv_ldc2 hx hb hown (hts (.constantLong RX5 145 (31)) (by decide +kernel)) dX5_digest_261 ?_
                    refine lv_lmul hx hb dX5_digest_264 ?_
                    refine lv_aload_n hx hb dX5_digest_265 rfl (lv_at hl 5 rfl) ?_
                    refine va_get (v := .ref y3) hx hb hts hi_5 hown hK hP 0 rfl rfl 5 (by decide) f_16 (fun _ h => h) rfl dX5_digest_266 ?_
                    refine lv_iload hx hb dX5_digest_269 (lv_at hl 0 rfl) ?_
                    refine z_ialdN hx hb hK hP 3 0 rfl rfl (by omega) (by decide) dX5_digest_271 ?_
                    refine lv_i2l hx hb dX5_digest_272 rfl ?_
                    refine lv_ladd hx hb dX5_digest_273 ?_
                    refine lv_lstore_n (lv' := [(2, .long (((fL (dwN t) (fL (dcM t n K Lm k) (dgl (dlM t n K Lm k q sg rp lo ea r_124 r_133 r_142 r_151) 2143) k) i3) * 31) + ((nI (t i3)).toInt64))), (4, .int (nI i3)), (6, .int (nI 18)), (5, .int (nI 18)), (1, .ref a_7), (0, .ref y0)]) hx hb dX5_digest_274 rfl hl (by decide) rfl (fun ls hl => ?_)
                    refine lv_iinc (v := nI (i3 + 1)) (lv' := [(4, .int (nI (i3 + 1))), (2, .long (((fL (dwN t) (fL (dcM t n K Lm k) (dgl (dlM t n K Lm k q sg rp lo ea r_124 r_133 r_142 r_151) 2143) k) i3) * 31) + ((nI (t i3)).toInt64))), (6, .int (nI 18)), (5, .int (nI 18)), (1, .ref a_7), (0, .ref y0)]) hx hb dX5_digest_275 hl (k := 1) rfl (z_inc1 _) (by decide) rfl (fun ls hl => ?_)
                    refine lv_goto (tgt := 251) hx hb dX5_digest_278 (by decide) ?_
                    exact ih_251 (i3 + 1) (by omega) (by omega) H locs ls hP hS (lv_sub hl [0, 2, 3, 1, 4, 5] rfl)
              exact lp_251 ((n - 0) + 1) 0 (Nat.zero_le _) (Nat.lt_succ_self _) H locs ls hP hS hl
            · refine lv_lload_n hx hb dX5_digest_213 rfl (lv_at hl 3 rfl) ?_
              refine lv_ldc2 hx hb hown (hts (.constantLong RX5 145 (31)) (by decide +kernel)) dX5_digest_214 ?_
              refine lv_lmul hx hb dX5_digest_217 ?_
              refine lv_aload_n hx hb dX5_digest_218 rfl (lv_at hl 5 rfl) ?_
              refine va_get (v := .ref y2) hx hb hts hi_5 hown hK hP 0 rfl rfl 3 (by decide) f_13 (fun _ h => h) rfl dX5_digest_219 ?_
              refine lv_iload hx hb dX5_digest_222 (lv_at hl 0 rfl) ?_
              refine z_ialdN hx hb hK hP 2 0 rfl rfl (by omega) (by decide) dX5_digest_224 ?_
              refine z_top (y := nI (Lm i2)) (congrArg nI (hKLf i2 c_210).2) ?_
              refine lv_i2l hx hb dX5_digest_225 rfl ?_
              refine lv_ladd hx hb dX5_digest_226 ?_
              refine lv_lstore_n (lv' := [(2, .long (((fL (dcM t n K Lm k) (dgl (dlM t n K Lm k q sg rp lo ea r_124 r_133 r_142 r_151) 2143) i2) * 31) + ((nI (Lm i2)).toInt64))), (4, .int (nI i2)), (6, .int (nI 18)), (5, .int (nI 18)), (1, .ref a_7), (0, .ref y0)]) hx hb dX5_digest_227 rfl hl (by decide) rfl (fun ls hl => ?_)
              refine lv_lload_n hx hb dX5_digest_228 rfl (lv_at hl 0 rfl) ?_
              refine lv_ldc2 hx hb hown (hts (.constantLong RX5 145 (31)) (by decide +kernel)) dX5_digest_229 ?_
              refine lv_lmul hx hb dX5_digest_232 ?_
              refine lv_aload_n hx hb dX5_digest_233 rfl (lv_at hl 5 rfl) ?_
              refine lv_iload hx hb dX5_digest_234 (lv_at hl 1 rfl) ?_
              refine z_muV (As := [.int (nI i2)]) (rest := [.long ((((fL (dcM t n K Lm k) (dgl (dlM t n K Lm k q sg rp lo ea r_124 r_133 r_142 r_151) 2143) i2) * 31) + ((nI (Lm i2)).toInt64)) * 31)]) ⟨hx, hb, hml, hown, hts⟩ (c_X5_uses l D cI y0 y1 y2 y3 y4 y5 0 k n q sg rp lo ea go2_116 ak2_116 gn2_116 gf2_116 K2_151 Lm2_151 t f1 C1 (nI i2) (by first | assumption | omega) (by first | assumption | omega) (by first | assumption | omega) (by first | assumption | omega)) (cwV 1 hts gX5_digest_X5_uses rfl rfl rfl hd_X5_uses ⟨Nat.le_of_ble_eq_true rfl, Nat.le_of_ble_eq_true rfl⟩) ⟨hK, hE⟩ hP hD rfl hS [0, 1, 2, 3, 4, 5] (by decide) rfl (fun _ => rfl) (va_recv hK hP (ci := 5) (q0 := 0) rfl rfl) rfl hl.1 rfl (Nat.le_of_ble_eq_true rfl) dX5_digest_236 (Nat.le_of_ble_eq_true rfl) (Nat.le_of_ble_eq_true rfl) (fun v9 u9 H locs hp hP hS => ?_)
              obtain ⟨f2_236, C2_236⟩ := u9
              obtain rfl := hp
              have hP : va_P D vwCl [(y0, .inr (5, [.int (nI 0), .int (nI k), .ref y1, .ref y2, .int (nI n), .ref y3, .int (nI q), .int (nI sg), .int rp, .int lo, .int ea, .ref y4, .ref y5, .int (nI go2_116), .int (nI ak2_116), .int (nI gn2_116), .int (nI gf2_116)])), (y1, .inl (cI, 9, .inl K2_151)), (y2, .inl (cI, 9, .inl (nA Lm2_151))), (y3, .inl (cI, 24, .inl (nA t))), (y4, .inl (cI, 25, .inl (nA f2_236))), (y5, .inl (cI, 24, .inl C2_236)), (a_7, .inl (cI, 18, .inl F9))] H := hP
              refine W.eq (g2 := F0 mi 239 ls [.int (nI (usM t n K2_151 Lm2_151 k (nI i2))), .long ((((fL (dcM t n K Lm k) (dgl (dlM t n K Lm k q sg rp lo ea r_124 r_133 r_142 r_151) 2143) i2) * 31) + ((nI (Lm i2)).toInt64)) * 31)]) rfl ?_
              refine z_top (y := nI (usM t n K Lm k (nI i2))) (congrArg nI (usM_c hKLf _)) ?_
              refine lv_i2l hx hb dX5_digest_239 rfl ?_
              refine lv_ladd hx hb dX5_digest_240 ?_
              refine lv_lstore_n (lv' := [(2, .long (((((fL (dcM t n K Lm k) (dgl (dlM t n K Lm k q sg rp lo ea r_124 r_133 r_142 r_151) 2143) i2) * 31) + ((nI (Lm i2)).toInt64)) * 31) + ((nI (usM t n K Lm k (nI i2))).toInt64))), (4, .int (nI i2)), (6, .int (nI 18)), (5, .int (nI 18)), (1, .ref a_7), (0, .ref y0)]) hx hb dX5_digest_241 rfl hl (by decide) rfl (fun ls hl => ?_)
              refine lv_iinc (v := nI (i2 + 1)) (lv' := [(4, .int (nI (i2 + 1))), (2, .long (((((fL (dcM t n K Lm k) (dgl (dlM t n K Lm k q sg rp lo ea r_124 r_133 r_142 r_151) 2143) i2) * 31) + ((nI (Lm i2)).toInt64)) * 31) + ((nI (usM t n K Lm k (nI i2))).toInt64))), (6, .int (nI 18)), (5, .int (nI 18)), (1, .ref a_7), (0, .ref y0)]) hx hb dX5_digest_242 hl (k := 1) rfl (z_inc1 _) (by decide) rfl (fun ls hl => ?_)
              refine lv_goto (tgt := 204) hx hb dX5_digest_245 (by decide) ?_
              exact ih_204 (i2 + 1) f2_236 C2_236 (by omega) (by omega) H locs ls hP hS (lv_sub hl [0, 2, 3, 1, 4, 5] rfl)
        exact lp_204 ((k - 0) + 1) 0 f2_151 C2_151 (Nat.zero_le _) (Nat.lt_succ_self _) H locs ls hP hS hl
      · refine lv_aload hx hb dX5_digest_178 (lv_at hl 2 rfl) ?_
        refine lv_iload hx hb dX5_digest_180 (lv_at hl 0 rfl) ?_
        refine z_iald hx hb hK hP 6 0 rfl rfl (by omega) (by decide) dX5_digest_182 ?_
        refine lv_istore (lv' := [(7, .int (F9 i1)), (6, .int (nI i1)), (5, .int (nI 18)), (4, .ref a_7), (2, .long (fL (fun i d => wn2 d (F9 i).toInt64) 2143 i1)), (1, .ref a_7), (0, .ref y0)]) hx hb dX5_digest_183 hl (by decide) rfl (fun ls hl => ?_)
        refine lv_lload_n hx hb dX5_digest_185 rfl (lv_at hl 4 rfl) ?_
        refine lv_ldc2 hx hb hown (hts (.constantLong RX5 145 (31)) (by decide +kernel)) dX5_digest_186 ?_
        refine lv_lmul hx hb dX5_digest_189 ?_
        refine lv_iload hx hb dX5_digest_190 (lv_at hl 0 rfl) ?_
        refine lv_i2l hx hb dX5_digest_192 rfl ?_
        refine lv_ladd hx hb dX5_digest_193 ?_
        refine lv_lstore_n (lv' := [(2, .long (((fL (fun i d => wn2 d (F9 i).toInt64) 2143 i1) * 31) + ((F9 i1).toInt64))), (7, .int (F9 i1)), (6, .int (nI i1)), (5, .int (nI 18)), (4, .ref a_7), (1, .ref a_7), (0, .ref y0)]) hx hb dX5_digest_194 rfl hl (by decide) rfl (fun ls hl => ?_)
        refine lv_iinc (v := nI (i1 + 1)) (lv' := [(6, .int (nI (i1 + 1))), (2, .long (((fL (fun i d => wn2 d (F9 i).toInt64) 2143 i1) * 31) + ((F9 i1).toInt64))), (7, .int (F9 i1)), (5, .int (nI 18)), (4, .ref a_7), (1, .ref a_7), (0, .ref y0)]) hx hb dX5_digest_195 hl (k := 2) rfl (z_inc1 _) (by decide) rfl (fun ls hl => ?_)
        refine lv_goto (tgt := 171) hx hb dX5_digest_198 (by decide) ?_
        exact ih_171 (i1 + 1) (by omega) (by omega) H locs ls hP hS (lv_sub hl [0, 3, 4, 1, 5, 6] rfl)
  exact lp_171 ((18 - 0) + 1) 0 (Nat.zero_le _) (Nat.lt_succ_self _) H locs ls hP hS hl
