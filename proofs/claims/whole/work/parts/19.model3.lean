theorem hd_X5_write : yX5_write.cls = RX5 ∧ yX5_write.cls ≠ "java/lang/invoke/MethodHandle" ∧ yX5_write.cls ≠ "java/lang/invoke/VarHandle" ∧ (parseMethodDescriptor yX5_write.desc).map (fun d => d.parameters.length) = some 1 := by decide +kernel
theorem hd_X5_strike : yX5_strike.cls = RX5 ∧ yX5_strike.cls ≠ "java/lang/invoke/MethodHandle" ∧ yX5_strike.cls ≠ "java/lang/invoke/VarHandle" ∧ (parseMethodDescriptor yX5_strike.desc).map (fun d => d.parameters.length) = some 0 := by decide +kernel
theorem hd_X5_setQuality : yX5_setQuality.cls = RX5 ∧ yX5_setQuality.cls ≠ "java/lang/invoke/MethodHandle" ∧ yX5_setQuality.cls ≠ "java/lang/invoke/VarHandle" ∧ (parseMethodDescriptor yX5_setQuality.desc).map (fun d => d.parameters.length) = some 1 := by decide +kernel
theorem hd_X5_send : yX5_send.cls = RX5 ∧ yX5_send.cls ≠ "java/lang/invoke/MethodHandle" ∧ yX5_send.cls ≠ "java/lang/invoke/VarHandle" ∧ (parseMethodDescriptor yX5_send.desc).map (fun d => d.parameters.length) = some 0 := by decide +kernel
theorem hd_X5_dropCode : yX5_dropCode.cls = RX5 ∧ yX5_dropCode.cls ≠ "java/lang/invoke/MethodHandle" ∧ yX5_dropCode.cls ≠ "java/lang/invoke/VarHandle" ∧ (parseMethodDescriptor yX5_dropCode.desc).map (fun d => d.parameters.length) = some 1 := by decide +kernel
theorem hd_X5_meanLength : yX5_meanLength.cls = RX5 ∧ yX5_meanLength.cls ≠ "java/lang/invoke/MethodHandle" ∧ yX5_meanLength.cls ≠ "java/lang/invoke/VarHandle" ∧ (parseMethodDescriptor yX5_meanLength.desc).map (fun d => d.parameters.length) = some 0 := by decide +kernel
theorem hd_X5_addCode : yX5_addCode.cls = RX5 ∧ yX5_addCode.cls ≠ "java/lang/invoke/MethodHandle" ∧ yX5_addCode.cls ≠ "java/lang/invoke/VarHandle" ∧ (parseMethodDescriptor yX5_addCode.desc).map (fun d => d.parameters.length) = some 4 := by decide +kernel
theorem hd_X5_bestNew : yX5_bestNew.cls = RX5 ∧ yX5_bestNew.cls ≠ "java/lang/invoke/MethodHandle" ∧ yX5_bestNew.cls ≠ "java/lang/invoke/VarHandle" ∧ (parseMethodDescriptor yX5_bestNew.desc).map (fun d => d.parameters.length) = some 1 := by decide +kernel
theorem hd_X5_bestNewCode : yX5_bestNewCode.cls = RX5 ∧ yX5_bestNewCode.cls ≠ "java/lang/invoke/MethodHandle" ∧ yX5_bestNewCode.cls ≠ "java/lang/invoke/VarHandle" ∧ (parseMethodDescriptor yX5_bestNewCode.desc).map (fun d => d.parameters.length) = some 1 := by decide +kernel
abbrev rm_X5_write : Room := { frames := 2, cells := 0, slots := 0, locals := 42 }
abbrev rm_X5_strike : Room := { frames := 1, cells := 0, slots := 0, locals := 21 }
abbrev rm_X5_setQuality : Room := { frames := 1, cells := 0, slots := 0, locals := 22 }
abbrev rm_X5_send : Room := { frames := 4, cells := 0, slots := 0, locals := 93 }
abbrev rm_X5_dropCode : Room := { frames := 2, cells := 0, slots := 0, locals := 43 }
abbrev rm_X5_meanLength : Room := { frames := 0, cells := 0, slots := 0, locals := 0 }
abbrev rm_X5_addCode : Room := { frames := 2, cells := 0, slots := 0, locals := 42 }
abbrev rm_X5_bestNew : Room := { frames := 2, cells := 0, slots := 0, locals := 51 }
abbrev rm_X5_bestNewCode : Room := { frames := 3, cells := 0, slots := 0, locals := 75 }
set_option maxHeartbeats 4000000 in
set_option maxRecDepth 100000 in
theorem c_X5_write (l : Launch) (D : va_G) (cI : ClassId) (y0 : Nat) (y1 : Nat) (y2 : Nat) (y3 : Nat) (y4 : Nat) (y5 : Nat) (th : Nat) (k : Nat) (n : Nat) (q : Nat) (sg : Nat) (rp : Int32) (lo : Int32) (ea : Int32) (go : Nat) (ak : Nat) (gn : Nat) (gf : Nat) (t : Nat → Nat) (x : Int32) (hn : n ≤ 24) : MU l yX5_write wsX5_write rm_X5_write D cI [(y0, .inr (5, [.int (nI th), .int (nI k), .ref y1, .ref y2, .int (nI n), .ref y3, .int (nI q), .int (nI sg), .int rp, .int lo, .int ea, .ref y4, .ref y5, .int (nI go), .int (nI ak), .int (nI gn), .int (nI gf)])), (y3, .inl (cI, 24, .inl (nA t)))] [.ref y0, .int x] (fun (v9 : Option Value) (u9 : Nat × Nat × (Nat → Nat) × Int32) => v9 = some (.int u9.2.2.2) ∧ ((∃ j : Nat, j < 10 ∧ x = nI j ∧ n < 24 ∧ u9.1 = 0 ∧ u9.2.1 = n + 1 ∧ u9.2.2.1 = updN t n j ∧ u9.2.2.2 = nI (n + 1)) ∨ ((¬ ∃ j : Nat, j < 10 ∧ x = nI j) ∧ u9.1 = 1 ∧ u9.2.1 = n ∧ u9.2.2.1 = t ∧ u9.2.2.2 = nI 0) ∨ ((∃ j : Nat, j < 10 ∧ x = nI j) ∧ n = 24 ∧ u9.1 = 2 ∧ u9.2.1 = n ∧ u9.2.2.1 = t ∧ u9.2.2.2 = nI 0))) (fun (u9 : Nat × Nat × (Nat → Nat) × Int32) => [(y0, .inr (5, [.int (nI u9.1), .int (nI k), .ref y1, .ref y2, .int (nI u9.2.1), .ref y3, .int (nI q), .int (nI sg), .int rp, .int lo, .int ea, .ref y4, .ref y5, .int (nI go), .int (nI ak), .int (nI gn), .int (nI gf)])), (y3, .inl (cI, 24, .inl (nA u9.2.2.1)))]) := by
  refine mu_of (C := RX5) (cc := cX5_write) (maxL := 2) (ret := (some .int)) rfl (by decide) rfl (Nat.le_of_ble_eq_true rfl) ?_
  intro pg ev sv mi ag bl mt cd ls Q A hA hQ hx hb hr hlocks hml hts hown hK hE hD H locs hP hS hl
  have hD : zDD A [y0, y3] := hD
  have hl : lv_has ls 2 [(0, .ref y0), (1, .int x)] := hl
  have f_29 := hts (.fieldLink RX5 29 "TelegraphDeskModel" "thrown" "I") (by decide +kernel)
  have f_39 := hts (.fieldLink RX5 39 "TelegraphDeskModel" "words" "I") (by decide +kernel)
  have f_16 := hts (.fieldLink RX5 16 "TelegraphDeskModel" "type" "[I") (by decide +kernel)
  have hi_5 : ∀ w ∈ wsX50, w ∈ wsX5_write := by decide +kernel
  refine lv_aload_n hx hb dX5_write_0 rfl (lv_at hl 0 rfl) ?_
  refine lv_iconst (v := nI 0) hx hb dX5_write_1 ci_0 ?_
  refine z_put hx hb hts hi_5 tyX5 tyX5_ok nmX5 hown hK hP hD rfl hS 0 rfl rfl 0 (by decide) f_29 (fun _ h => h) rfl (by decide +kernel) (Nat.le_of_ble_eq_true rfl) dX5_write_2 (fun H locs hP hS => ?_)
  have hP : va_P D vwCl [(y0, .inr (5, [.int (nI 0), .int (nI k), .ref y1, .ref y2, .int (nI n), .ref y3, .int (nI q), .int (nI sg), .int rp, .int lo, .int ea, .ref y4, .ref y5, .int (nI go), .int (nI ak), .int (nI gn), .int (nI gf)])), (y3, .inl (cI, 24, .inl (nA t)))] H := hP
  refine lv_iload_n hx hb dX5_write_5 rfl (lv_at hl 1 rfl) ?_
  refine z_roS (As := [.int x]) (rest := []) ⟨hx, hb, hml, hown, hts⟩ (c_X5_isType l D cI x) (va_cwS 1 hts gX5_write_X5_isType rfl rfl rfl hd_X5_isType ⟨Nat.le_of_ble_eq_true rfl, Nat.le_of_ble_eq_true rfl⟩) ⟨hK, hE⟩ (va_P_nil _ _ _) rfl hl.1 rfl (Nat.le_of_ble_eq_true rfl) dX5_write_6 (Nat.zero_le _) (Nat.zero_le _) ?_
  refine z_if_neP (tgt := 18) hx hb dX5_write_9 (by decide) (fun c_9 => ?_) (fun c_9 => ?_)
  · obtain ⟨j, hj, rfl⟩ := c_9
    refine lv_aload_n hx hb dX5_write_18 rfl (lv_at hl 0 rfl) ?_
    refine va_get (v := .int (nI n)) hx hb hts hi_5 hown hK hP 0 rfl rfl 4 (by decide) f_39 (fun _ h => h) rfl dX5_write_19 ?_
    refine z_bipush (n := 24) hx hb rfl (by decide) dX5_write_22 ?_
    refine z_icmp_ne (tgt := 33) hx hb dX5_write_24 (by decide) (by omega) (by omega) (fun c_24 => ?_) (fun c_24 => ?_)
    · refine lv_aload_n hx hb dX5_write_33 rfl (lv_at hl 0 rfl) ?_
      refine va_get (v := .ref y3) hx hb hts hi_5 hown hK hP 0 rfl rfl 5 (by decide) f_16 (fun _ h => h) rfl dX5_write_34 ?_
      refine lv_aload_n hx hb dX5_write_37 rfl (lv_at hl 0 rfl) ?_
      refine va_get (v := .int (nI n)) hx hb hts hi_5 hown hK hP 0 rfl rfl 4 (by decide) f_39 (fun _ h => h) rfl dX5_write_38 ?_
      refine lv_iload_n hx hb dX5_write_41 rfl (lv_at hl 1 rfl) ?_
      refine z_iastN hx hb hK hP hD rfl hS 1 0 rfl rfl (by omega) (by decide) dX5_write_42 (fun H locs hP hS => ?_)
      have hP : va_P D vwCl [(y0, .inr (5, [.int (nI 0), .int (nI k), .ref y1, .ref y2, .int (nI n), .ref y3, .int (nI q), .int (nI sg), .int rp, .int lo, .int ea, .ref y4, .ref y5, .int (nI go), .int (nI ak), .int (nI gn), .int (nI gf)])), (y3, .inl (cI, 24, .inl (nA (updN t n j))))] H := hP
      refine lv_aload_n hx hb dX5_write_43 rfl (lv_at hl 0 rfl) ?_
      refine lv_dup hx hb dX5_write_44 rfl ?_
      refine va_get (v := .int (nI n)) hx hb hts hi_5 hown hK hP 0 rfl rfl 4 (by decide) f_39 (fun _ h => h) rfl dX5_write_45 ?_
      refine lv_iconst (v := nI 1) hx hb dX5_write_48 ci_1 ?_
      refine z_iadd hx hb dX5_write_49 ?_
      refine z_put hx hb hts hi_5 tyX5 tyX5_ok nmX5 hown hK hP hD rfl hS 0 rfl rfl 4 (by decide) f_39 (fun _ h => h) rfl (by decide +kernel) (Nat.le_of_ble_eq_true rfl) dX5_write_50 (fun H locs hP hS => ?_)
      have hP : va_P D vwCl [(y0, .inr (5, [.int (nI 0), .int (nI k), .ref y1, .ref y2, .int (nI (n + 1)), .ref y3, .int (nI q), .int (nI sg), .int rp, .int lo, .int ea, .ref y4, .ref y5, .int (nI go), .int (nI ak), .int (nI gn), .int (nI gf)])), (y3, .inl (cI, 24, .inl (nA (updN t n j))))] H := hP
      refine lv_aload_n hx hb dX5_write_53 rfl (lv_at hl 0 rfl) ?_
      refine va_get (v := .int (nI (n + 1))) hx hb hts hi_5 hown hK hP 0 rfl rfl 4 (by decide) f_39 (fun _ h => h) rfl dX5_write_54 ?_
      exact mu_iret hA hQ hx hb hr hlocks (0, n + 1, updN t n j, nI (n + 1)) hP hS ⟨rfl, Or.inl ⟨j, hj, rfl, (show n < 24 by omega), rfl, rfl, rfl, rfl⟩⟩ dX5_write_57
    · refine lv_aload_n hx hb dX5_write_27 rfl (lv_at hl 0 rfl) ?_
      refine lv_iconst (v := nI 2) hx hb dX5_write_28 ci_2 ?_
      refine z_muV (As := [.int (nI 2)]) (rest := []) ⟨hx, hb, hml, hown, hts⟩ (c_X5_fail l D cI y0 y1 y2 y3 y4 y5 0 k n q sg rp lo ea go ak gn gf 2) (cwV 1 hts gX5_write_X5_fail rfl rfl rfl hd_X5_fail ⟨Nat.le_of_ble_eq_true rfl, Nat.le_of_ble_eq_true rfl⟩) ⟨hK, hE⟩ hP hD rfl hS [0] (by decide) rfl (fun _ => rfl) (va_recv hK hP (ci := 5) (q0 := 0) rfl rfl) rfl hl.1 rfl (Nat.le_of_ble_eq_true rfl) dX5_write_29 (Nat.zero_le _) (Nat.zero_le _) (fun v9 u9 H locs hp hP hS => ?_)
      obtain rfl := hp
      have hP : va_P D vwCl [(y0, .inr (5, [.int (nI 2), .int (nI k), .ref y1, .ref y2, .int (nI n), .ref y3, .int (nI q), .int (nI sg), .int rp, .int lo, .int ea, .ref y4, .ref y5, .int (nI go), .int (nI ak), .int (nI gn), .int (nI gf)])), (y3, .inl (cI, 24, .inl (nA t)))] H := hP
      refine W.eq (g2 := F0 mi 32 ls [.int (nI 0)]) rfl ?_
      exact mu_iret hA hQ hx hb hr hlocks (2, n, t, nI 0) hP hS ⟨rfl, Or.inr (Or.inr ⟨⟨j, hj, rfl⟩, c_24, rfl, rfl, rfl, rfl⟩)⟩ dX5_write_32
  · refine lv_aload_n hx hb dX5_write_12 rfl (lv_at hl 0 rfl) ?_
    refine lv_iconst (v := nI 1) hx hb dX5_write_13 ci_1 ?_
    refine z_muV (As := [.int (nI 1)]) (rest := []) ⟨hx, hb, hml, hown, hts⟩ (c_X5_fail l D cI y0 y1 y2 y3 y4 y5 0 k n q sg rp lo ea go ak gn gf 1) (cwV 1 hts gX5_write_X5_fail rfl rfl rfl hd_X5_fail ⟨Nat.le_of_ble_eq_true rfl, Nat.le_of_ble_eq_true rfl⟩) ⟨hK, hE⟩ hP hD rfl hS [0] (by decide) rfl (fun _ => rfl) (va_recv hK hP (ci := 5) (q0 := 0) rfl rfl) rfl hl.1 rfl (Nat.le_of_ble_eq_true rfl) dX5_write_14 (Nat.zero_le _) (Nat.zero_le _) (fun v9 u9 H locs hp hP hS => ?_)
    obtain rfl := hp
    have hP : va_P D vwCl [(y0, .inr (5, [.int (nI 1), .int (nI k), .ref y1, .ref y2, .int (nI n), .ref y3, .int (nI q), .int (nI sg), .int rp, .int lo, .int ea, .ref y4, .ref y5, .int (nI go), .int (nI ak), .int (nI gn), .int (nI gf)])), (y3, .inl (cI, 24, .inl (nA t)))] H := hP
    refine W.eq (g2 := F0 mi 17 ls [.int (nI 0)]) rfl ?_
    exact mu_iret hA hQ hx hb hr hlocks (1, n, t, nI 0) hP hS ⟨rfl, Or.inr (Or.inl ⟨c_9, rfl, rfl, rfl, rfl⟩)⟩ dX5_write_17
set_option maxHeartbeats 4000000 in
set_option maxRecDepth 100000 in
theorem c_X5_strike (l : Launch) (D : va_G) (cI : ClassId) (y0 : Nat) (y1 : Nat) (y2 : Nat) (y3 : Nat) (y4 : Nat) (y5 : Nat) (th : Nat) (k : Nat) (n : Nat) (q : Nat) (sg : Nat) (rp : Int32) (lo : Int32) (ea : Int32) (go : Nat) (ak : Nat) (gn : Nat) (gf : Nat) (t : Nat → Nat) (hn : n ≤ 24) : MU l yX5_strike wsX5_strike rm_X5_strike D cI [(y0, .inr (5, [.int (nI th), .int (nI k), .ref y1, .ref y2, .int (nI n), .ref y3, .int (nI q), .int (nI sg), .int rp, .int lo, .int ea, .ref y4, .ref y5, .int (nI go), .int (nI ak), .int (nI gn), .int (nI gf)])), (y3, .inl (cI, 24, .inl (nA t)))] [.ref y0] (fun (v9 : Option Value) (u9 : Nat × Nat × Int32) => v9 = some (.int u9.2.2) ∧ ((0 < n ∧ u9.1 = 0 ∧ u9.2.1 = n - 1 ∧ u9.2.2 = nI (t (n - 1))) ∨ (n = 0 ∧ u9.1 = 1 ∧ u9.2.1 = n ∧ u9.2.2 = nI 0))) (fun (u9 : Nat × Nat × Int32) => [(y0, .inr (5, [.int (nI u9.1), .int (nI k), .ref y1, .ref y2, .int (nI u9.2.1), .ref y3, .int (nI q), .int (nI sg), .int rp, .int lo, .int ea, .ref y4, .ref y5, .int (nI go), .int (nI ak), .int (nI gn), .int (nI gf)])), (y3, .inl (cI, 24, .inl (nA t)))]) := by
  refine mu_of (C := RX5) (cc := cX5_strike) (maxL := 1) (ret := (some .int)) rfl (by decide) rfl (Nat.le_of_ble_eq_true rfl) ?_
  intro pg ev sv mi ag bl mt cd ls Q A hA hQ hx hb hr hlocks hml hts hown hK hE hD H locs hP hS hl
  have hD : zDD A [y0, y3] := hD
  have hl : lv_has ls 1 [(0, .ref y0)] := hl
  have f_29 := hts (.fieldLink RX5 29 "TelegraphDeskModel" "thrown" "I") (by decide +kernel)
  have f_39 := hts (.fieldLink RX5 39 "TelegraphDeskModel" "words" "I") (by decide +kernel)
  have f_16 := hts (.fieldLink RX5 16 "TelegraphDeskModel" "type" "[I") (by decide +kernel)
  have hi_5 : ∀ w ∈ wsX50, w ∈ wsX5_strike := by decide +kernel
  refine lv_aload_n hx hb dX5_strike_0 rfl (lv_at hl 0 rfl) ?_
  refine lv_iconst (v := nI 0) hx hb dX5_strike_1 ci_0 ?_
  refine z_put hx hb hts hi_5 tyX5 tyX5_ok nmX5 hown hK hP hD rfl hS 0 rfl rfl 0 (by decide) f_29 (fun _ h => h) rfl (by decide +kernel) (Nat.le_of_ble_eq_true rfl) dX5_strike_2 (fun H locs hP hS => ?_)
  have hP : va_P D vwCl [(y0, .inr (5, [.int (nI 0), .int (nI k), .ref y1, .ref y2, .int (nI n), .ref y3, .int (nI q), .int (nI sg), .int rp, .int lo, .int ea, .ref y4, .ref y5, .int (nI go), .int (nI ak), .int (nI gn), .int (nI gf)])), (y3, .inl (cI, 24, .inl (nA t)))] H := hP
  refine lv_aload_n hx hb dX5_strike_5 rfl (lv_at hl 0 rfl) ?_
  refine va_get (v := .int (nI n)) hx hb hts hi_5 hown hK hP 0 rfl rfl 4 (by decide) f_39 (fun _ h => h) rfl dX5_strike_6 ?_
  refine z_if_ne (tgt := 18) hx hb dX5_strike_9 (by decide) (by omega) (fun c_9 => ?_) (fun c_9 => ?_)
  · refine lv_aload_n hx hb dX5_strike_18 rfl (lv_at hl 0 rfl) ?_
    refine lv_dup hx hb dX5_strike_19 rfl ?_
    refine va_get (v := .int (nI n)) hx hb hts hi_5 hown hK hP 0 rfl rfl 4 (by decide) f_39 (fun _ h => h) rfl dX5_strike_20 ?_
    refine lv_iconst (v := nI 1) hx hb dX5_strike_23 ci_1 ?_
    refine z_isub hx hb dX5_strike_24 (by omega) ?_
    refine z_put hx hb hts hi_5 tyX5 tyX5_ok nmX5 hown hK hP hD rfl hS 0 rfl rfl 4 (by decide) f_39 (fun _ h => h) rfl (by decide +kernel) (Nat.le_of_ble_eq_true rfl) dX5_strike_25 (fun H locs hP hS => ?_)
    have hP : va_P D vwCl [(y0, .inr (5, [.int (nI 0), .int (nI k), .ref y1, .ref y2, .int (nI (n - 1)), .ref y3, .int (nI q), .int (nI sg), .int rp, .int lo, .int ea, .ref y4, .ref y5, .int (nI go), .int (nI ak), .int (nI gn), .int (nI gf)])), (y3, .inl (cI, 24, .inl (nA t)))] H := hP
    refine lv_aload_n hx hb dX5_strike_28 rfl (lv_at hl 0 rfl) ?_
    refine va_get (v := .ref y3) hx hb hts hi_5 hown hK hP 0 rfl rfl 5 (by decide) f_16 (fun _ h => h) rfl dX5_strike_29 ?_
    refine lv_aload_n hx hb dX5_strike_32 rfl (lv_at hl 0 rfl) ?_
    refine va_get (v := .int (nI (n - 1))) hx hb hts hi_5 hown hK hP 0 rfl rfl 4 (by decide) f_39 (fun _ h => h) rfl dX5_strike_33 ?_
    refine z_ialdN hx hb hK hP 1 0 rfl rfl (by omega) (by decide) dX5_strike_36 ?_
    exact mu_iret hA hQ hx hb hr hlocks (0, n - 1, nI (t (n - 1))) hP hS ⟨rfl, Or.inl ⟨c_9, rfl, rfl, rfl⟩⟩ dX5_strike_37
  · refine lv_aload_n hx hb dX5_strike_12 rfl (lv_at hl 0 rfl) ?_
    refine lv_iconst (v := nI 1) hx hb dX5_strike_13 ci_1 ?_
    refine z_muV (As := [.int (nI 1)]) (rest := []) ⟨hx, hb, hml, hown, hts⟩ (c_X5_fail l D cI y0 y1 y2 y3 y4 y5 0 k n q sg rp lo ea go ak gn gf 1) (cwV 1 hts gX5_strike_X5_fail rfl rfl rfl hd_X5_fail ⟨Nat.le_of_ble_eq_true rfl, Nat.le_of_ble_eq_true rfl⟩) ⟨hK, hE⟩ hP hD rfl hS [0] (by decide) rfl (fun _ => rfl) (va_recv hK hP (ci := 5) (q0 := 0) rfl rfl) rfl hl.1 rfl (Nat.le_of_ble_eq_true rfl) dX5_strike_14 (Nat.zero_le _) (Nat.zero_le _) (fun v9 u9 H locs hp hP hS => ?_)
    obtain rfl := hp
    have hP : va_P D vwCl [(y0, .inr (5, [.int (nI 1), .int (nI k), .ref y1, .ref y2, .int (nI n), .ref y3, .int (nI q), .int (nI sg), .int rp, .int lo, .int ea, .ref y4, .ref y5, .int (nI go), .int (nI ak), .int (nI gn), .int (nI gf)])), (y3, .inl (cI, 24, .inl (nA t)))] H := hP
    refine W.eq (g2 := F0 mi 17 ls [.int (nI 0)]) rfl ?_
    exact mu_iret hA hQ hx hb hr hlocks (1, n, nI 0) hP hS ⟨rfl, Or.inr ⟨c_9, rfl, rfl, rfl⟩⟩ dX5_strike_17
set_option maxHeartbeats 4000000 in
set_option maxRecDepth 100000 in
theorem c_X5_setQuality (l : Launch) (D : va_G) (cI : ClassId) (y0 : Nat) (y1 : Nat) (y2 : Nat) (y3 : Nat) (y4 : Nat) (y5 : Nat) (th : Nat) (k : Nat) (n : Nat) (q : Nat) (sg : Nat) (rp : Int32) (lo : Int32) (ea : Int32) (go : Nat) (ak : Nat) (gn : Nat) (gf : Nat) (x : Int32) : MU l yX5_setQuality wsX5_setQuality rm_X5_setQuality D cI [(y0, .inr (5, [.int (nI th), .int (nI k), .ref y1, .ref y2, .int (nI n), .ref y3, .int (nI q), .int (nI sg), .int rp, .int lo, .int ea, .ref y4, .ref y5, .int (nI go), .int (nI ak), .int (nI gn), .int (nI gf)]))] [.ref y0, .int x] (fun (v9 : Option Value) (u9 : Nat × Nat × Int32) => v9 = some (.int u9.2.2) ∧ ((∃ j : Nat, (1 ≤ j ∧ j ≤ 9) ∧ x = nI j ∧ u9.1 = 0 ∧ u9.2.1 = j ∧ u9.2.2 = nI q) ∨ ((¬ ∃ j : Nat, (1 ≤ j ∧ j ≤ 9) ∧ x = nI j) ∧ u9.1 = 1 ∧ u9.2.1 = q ∧ u9.2.2 = nI 0))) (fun (u9 : Nat × Nat × Int32) => [(y0, .inr (5, [.int (nI u9.1), .int (nI k), .ref y1, .ref y2, .int (nI n), .ref y3, .int (nI u9.2.1), .int (nI sg), .int rp, .int lo, .int ea, .ref y4, .ref y5, .int (nI go), .int (nI ak), .int (nI gn), .int (nI gf)]))]) := by
  refine mu_of (C := RX5) (cc := cX5_setQuality) (maxL := 3) (ret := (some .int)) rfl (by decide) rfl (Nat.le_of_ble_eq_true rfl) ?_
  intro pg ev sv mi ag bl mt cd ls Q A hA hQ hx hb hr hlocks hml hts hown hK hE hD H locs hP hS hl
  have hD : zDD A [y0] := hD
  have hl : lv_has ls 3 [(0, .ref y0), (1, .int x)] := hl
  have f_29 := hts (.fieldLink RX5 29 "TelegraphDeskModel" "thrown" "I") (by decide +kernel)
  have f_19 := hts (.fieldLink RX5 19 "TelegraphDeskModel" "quality" "I") (by decide +kernel)
  have hi_5 : ∀ w ∈ wsX50, w ∈ wsX5_setQuality := by decide +kernel
  refine lv_aload_n hx hb dX5_setQuality_0 rfl (lv_at hl 0 rfl) ?_
  refine lv_iconst (v := nI 0) hx hb dX5_setQuality_1 ci_0 ?_
  refine z_put hx hb hts hi_5 tyX5 tyX5_ok nmX5 hown hK hP hD rfl hS 0 rfl rfl 0 (by decide) f_29 (fun _ h => h) rfl (by decide +kernel) (Nat.le_of_ble_eq_true rfl) dX5_setQuality_2 (fun H locs hP hS => ?_)
  have hP : va_P D vwCl [(y0, .inr (5, [.int (nI 0), .int (nI k), .ref y1, .ref y2, .int (nI n), .ref y3, .int (nI q), .int (nI sg), .int rp, .int lo, .int ea, .ref y4, .ref y5, .int (nI go), .int (nI ak), .int (nI gn), .int (nI gf)]))] H := hP
  refine lv_iload_n hx hb dX5_setQuality_5 rfl (lv_at hl 1 rfl) ?_
  refine lv_iconst (v := nI 1) hx hb dX5_setQuality_6 ci_1 ?_
  refine z_bipush (n := 9) hx hb rfl (by decide) dX5_setQuality_7 ?_
  refine z_roS (As := [.int x, .int (nI 1), .int (nI 9)]) (rest := []) ⟨hx, hb, hml, hown, hts⟩ (c_X5_isIn l D cI x (nI 1) (nI 9)) (va_cwS 3 hts gX5_setQuality_X5_isIn rfl rfl rfl hd_X5_isIn ⟨Nat.le_of_ble_eq_true rfl, Nat.le_of_ble_eq_true rfl⟩) ⟨hK, hE⟩ (va_P_nil _ _ _) rfl hl.1 rfl (Nat.le_of_ble_eq_true rfl) dX5_setQuality_9 (Nat.zero_le _) (Nat.zero_le _) ?_
  refine z_if_neP (tgt := 21) hx hb dX5_setQuality_12 (by decide) (fun c_12 => ?_) (fun c_12 => ?_)
  · obtain ⟨j, hj, rfl⟩ := (z_inAB (by decide) (by decide)).mp c_12
    refine lv_aload_n hx hb dX5_setQuality_21 rfl (lv_at hl 0 rfl) ?_
    refine va_get (v := .int (nI q)) hx hb hts hi_5 hown hK hP 0 rfl rfl 6 (by decide) f_19 (fun _ h => h) rfl dX5_setQuality_22 ?_
    refine lv_istore_n (lv' := [(2, .int (nI q)), (0, .ref y0), (1, .int (nI j))]) hx hb dX5_setQuality_25 rfl hl (by decide) rfl (fun ls hl => ?_)
    refine lv_aload_n hx hb dX5_setQuality_26 rfl (lv_at hl 1 rfl) ?_
    refine lv_iload_n hx hb dX5_setQuality_27 rfl (lv_at hl 2 rfl) ?_
    refine z_put hx hb hts hi_5 tyX5 tyX5_ok nmX5 hown hK hP hD rfl hS 0 rfl rfl 6 (by decide) f_19 (fun _ h => h) rfl (by decide +kernel) (Nat.le_of_ble_eq_true rfl) dX5_setQuality_28 (fun H locs hP hS => ?_)
    have hP : va_P D vwCl [(y0, .inr (5, [.int (nI 0), .int (nI k), .ref y1, .ref y2, .int (nI n), .ref y3, .int (nI j), .int (nI sg), .int rp, .int lo, .int ea, .ref y4, .ref y5, .int (nI go), .int (nI ak), .int (nI gn), .int (nI gf)]))] H := hP
    refine lv_iload_n hx hb dX5_setQuality_31 rfl (lv_at hl 0 rfl) ?_
    exact mu_iret hA hQ hx hb hr hlocks (0, j, nI q) hP hS ⟨rfl, Or.inl ⟨j, hj, rfl, rfl, rfl, rfl⟩⟩ dX5_setQuality_32
  · refine lv_aload_n hx hb dX5_setQuality_15 rfl (lv_at hl 0 rfl) ?_
    refine lv_iconst (v := nI 1) hx hb dX5_setQuality_16 ci_1 ?_
    refine z_muV (As := [.int (nI 1)]) (rest := []) ⟨hx, hb, hml, hown, hts⟩ (c_X5_fail l D cI y0 y1 y2 y3 y4 y5 0 k n q sg rp lo ea go ak gn gf 1) (cwV 1 hts gX5_setQuality_X5_fail rfl rfl rfl hd_X5_fail ⟨Nat.le_of_ble_eq_true rfl, Nat.le_of_ble_eq_true rfl⟩) ⟨hK, hE⟩ hP hD rfl hS [0] (by decide) rfl (fun _ => rfl) (va_recv hK hP (ci := 5) (q0 := 0) rfl rfl) rfl hl.1 rfl (Nat.le_of_ble_eq_true rfl) dX5_setQuality_17 (Nat.zero_le _) (Nat.zero_le _) (fun v9 u9 H locs hp hP hS => ?_)
    obtain rfl := hp
    have hP : va_P D vwCl [(y0, .inr (5, [.int (nI 1), .int (nI k), .ref y1, .ref y2, .int (nI n), .ref y3, .int (nI q), .int (nI sg), .int rp, .int lo, .int ea, .ref y4, .ref y5, .int (nI go), .int (nI ak), .int (nI gn), .int (nI gf)]))] H := hP
    refine W.eq (g2 := F0 mi 20 ls [.int (nI 0)]) rfl ?_
    exact mu_iret hA hQ hx hb hr hlocks (1, q, nI 0) hP hS ⟨rfl, Or.inr ⟨fun q => c_12 ((z_inAB (by decide) (by decide)).mpr q), rfl, rfl, rfl⟩⟩ dX5_setQuality_20
set_option maxHeartbeats 4000000 in
set_option maxRecDepth 100000 in
theorem c_X5_send (l : Launch) (D : va_G) (cI : ClassId) (y0 : Nat) (y1 : Nat) (y2 : Nat) (y3 : Nat) (y4 : Nat) (y5 : Nat) (th : Nat) (k : Nat) (n : Nat) (q : Nat) (sg : Nat) (rp : Int32) (lo : Int32) (ea : Int32) (go : Nat) (ak : Nat) (gn : Nat) (gf : Nat) (K : Nat → Int32) (Lm : Nat → Nat) (t : Nat → Nat) (f : Nat → Nat) (C : Nat → Int32) (hn : n ≤ 24) (hk : k ≤ 8) (hLk : ∀ c, c < k → 2 ≤ Lm c ∧ Lm c ≤ 4) (hKk : ∀ c, c < k → ¬ K c = -1) (ht : ∀ j, j < n → t j < 10) (hq : q ≤ 9) (hsg : sg ≤ 60000) : MU l yX5_send wsX5_send rm_X5_send D cI [(y0, .inr (5, [.int (nI th), .int (nI k), .ref y1, .ref y2, .int (nI n), .ref y3, .int (nI q), .int (nI sg), .int rp, .int lo, .int ea, .ref y4, .ref y5, .int (nI go), .int (nI ak), .int (nI gn), .int (nI gf)])), (y1, .inl (cI, 9, .inl K)), (y2, .inl (cI, 9, .inl (nA Lm))), (y3, .inl (cI, 24, .inl (nA t))), (y4, .inl (cI, 25, .inl (nA f))), (y5, .inl (cI, 24, .inl C))] [.ref y0] (fun (v9 : Option Value) (u9 : Nat × Nat × Nat × Int32 × Int32 × Int32 × Int32 × (Nat → Nat) × (Nat → Int32) × Nat × Nat × Nat × Nat) => v9 = some (.int u9.2.2.2.2.2.2.1) ∧ ((0 < n ∧ u9.1 = 0 ∧ u9.2.1 = 0 ∧ u9.2.2.1 = seN q sg (gM t n K Lm k (-1)) ∧ u9.2.2.2.1 = rp + nI (akN q sg (gM t n K Lm k (-1))) ∧ u9.2.2.2.2.1 = lo + nI (gnN q sg (gM t n K Lm k (-1))) ∧ u9.2.2.2.2.2.1 = ea + nI (costN n (ctM t n K Lm k)) ∧ u9.2.2.2.2.2.2.1 = nI (gnN q sg (gM t n K Lm k (-1)))) ∨ (n = 0 ∧ u9.1 = 1 ∧ u9.2.1 = n ∧ u9.2.2.1 = sg ∧ u9.2.2.2.1 = rp ∧ u9.2.2.2.2.1 = lo ∧ u9.2.2.2.2.2.1 = ea ∧ u9.2.2.2.2.2.2.1 = nI 0))) (fun (u9 : Nat × Nat × Nat × Int32 × Int32 × Int32 × Int32 × (Nat → Nat) × (Nat → Int32) × Nat × Nat × Nat × Nat) => [(y0, .inr (5, [.int (nI u9.1), .int (nI k), .ref y1, .ref y2, .int (nI u9.2.1), .ref y3, .int (nI q), .int (nI u9.2.2.1), .int u9.2.2.2.1, .int u9.2.2.2.2.1, .int u9.2.2.2.2.2.1, .ref y4, .ref y5, .int (nI u9.2.2.2.2.2.2.2.2.2.1), .int (nI u9.2.2.2.2.2.2.2.2.2.2.1), .int (nI u9.2.2.2.2.2.2.2.2.2.2.2.1), .int (nI u9.2.2.2.2.2.2.2.2.2.2.2.2)])), (y1, .inl (cI, 9, .inl K)), (y2, .inl (cI, 9, .inl (nA Lm))), (y3, .inl (cI, 24, .inl (nA t))), (y4, .inl (cI, 25, .inl (nA u9.2.2.2.2.2.2.2.1))), (y5, .inl (cI, 24, .inl u9.2.2.2.2.2.2.2.2.1))]) := by
  refine mu_of (C := RX5) (cc := cX5_send) (maxL := 1) (ret := (some .int)) rfl (by decide) rfl (Nat.le_of_ble_eq_true rfl) ?_
  intro pg ev sv mi ag bl mt cd ls Q A hA hQ hx hb hr hlocks hml hts hown hK hE hD H locs hP hS hl
  have hD : zDD A [y0, y1, y2, y3, y4, y5] := hD
  have hl : lv_has ls 1 [(0, .ref y0)] := hl
  have f_29 := hts (.fieldLink RX5 29 "TelegraphDeskModel" "thrown" "I") (by decide +kernel)
  have f_39 := hts (.fieldLink RX5 39 "TelegraphDeskModel" "words" "I") (by decide +kernel)
  have f_113 := hts (.fieldLink RX5 113 "TelegraphDeskModel" "earned" "I") (by decide +kernel)
  have f_19 := hts (.fieldLink RX5 19 "TelegraphDeskModel" "quality" "I") (by decide +kernel)
  have f_78 := hts (.fieldLink RX5 78 "TelegraphDeskModel" "sent" "I") (by decide +kernel)
  have f_66 := hts (.fieldLink RX5 66 "TelegraphDeskModel" "goes" "I") (by decide +kernel)
  have f_119 := hts (.fieldLink RX5 119 "TelegraphDeskModel" "repeats" "I") (by decide +kernel)
  have f_69 := hts (.fieldLink RX5 69 "TelegraphDeskModel" "asked" "I") (by decide +kernel)
  have f_122 := hts (.fieldLink RX5 122 "TelegraphDeskModel" "lost" "I") (by decide +kernel)
  have f_72 := hts (.fieldLink RX5 72 "TelegraphDeskModel" "gone" "I") (by decide +kernel)
  have hi_5 : ∀ w ∈ wsX50, w ∈ wsX5_send := by decide +kernel
  refine lv_aload_n hx hb dX5_send_0 rfl (lv_at hl 0 rfl) ?_
  refine lv_iconst (v := nI 0) hx hb dX5_send_1 ci_0 ?_
  refine z_put hx hb hts hi_5 tyX5 tyX5_ok nmX5 hown hK hP hD rfl hS 0 rfl rfl 0 (by decide) f_29 (fun _ h => h) rfl (by decide +kernel) (Nat.le_of_ble_eq_true rfl) dX5_send_2 (fun H locs hP hS => ?_)
  have hP : va_P D vwCl [(y0, .inr (5, [.int (nI 0), .int (nI k), .ref y1, .ref y2, .int (nI n), .ref y3, .int (nI q), .int (nI sg), .int rp, .int lo, .int ea, .ref y4, .ref y5, .int (nI go), .int (nI ak), .int (nI gn), .int (nI gf)])), (y1, .inl (cI, 9, .inl K)), (y2, .inl (cI, 9, .inl (nA Lm))), (y3, .inl (cI, 24, .inl (nA t))), (y4, .inl (cI, 25, .inl (nA f))), (y5, .inl (cI, 24, .inl C))] H := hP
  refine lv_aload_n hx hb dX5_send_5 rfl (lv_at hl 0 rfl) ?_
  refine va_get (v := .int (nI n)) hx hb hts hi_5 hown hK hP 0 rfl rfl 4 (by decide) f_39 (fun _ h => h) rfl dX5_send_6 ?_
  refine z_if_ne (tgt := 18) hx hb dX5_send_9 (by decide) (by omega) (fun c_9 => ?_) (fun c_9 => ?_)
  · refine lv_aload_n hx hb dX5_send_18 rfl (lv_at hl 0 rfl) ?_
    refine lv_dup hx hb dX5_send_19 rfl ?_
    refine va_get (v := .int ea) hx hb hts hi_5 hown hK hP 0 rfl rfl 10 (by decide) f_113 (fun _ h => h) rfl dX5_send_20 ?_
    refine lv_aload_n hx hb dX5_send_23 rfl (lv_at hl 0 rfl) ?_
    refine z_muV (As := []) (rest := [.int ea, .ref y0]) ⟨hx, hb, hml, hown, hts⟩ (c_X5_priceNow l D cI y0 y1 y2 y3 y4 y5 0 k n q sg rp lo ea go ak gn gf K Lm t f C (by first | assumption | omega) (by first | assumption | omega) (by first | assumption | omega) (by first | assumption | omega) (by first | assumption | omega)) (cwV 0 hts gX5_send_X5_priceNow rfl rfl rfl hd_X5_priceNow ⟨Nat.le_of_ble_eq_true rfl, Nat.le_of_ble_eq_true rfl⟩) ⟨hK, hE⟩ hP hD rfl hS [0, 1, 2, 3, 4, 5] (by decide) rfl (fun _ => rfl) (va_recv hK hP (ci := 5) (q0 := 0) rfl rfl) rfl hl.1 rfl (Nat.le_of_ble_eq_true rfl) dX5_send_24 (Nat.zero_le _) (Nat.zero_le _) (fun v9 u9 H locs hp hP hS => ?_)
    obtain ⟨f2_24, C2_24⟩ := u9
    obtain rfl := hp
    have hP : va_P D vwCl [(y0, .inr (5, [.int (nI 0), .int (nI k), .ref y1, .ref y2, .int (nI n), .ref y3, .int (nI q), .int (nI sg), .int rp, .int lo, .int ea, .ref y4, .ref y5, .int (nI go), .int (nI ak), .int (nI gn), .int (nI gf)])), (y1, .inl (cI, 9, .inl K)), (y2, .inl (cI, 9, .inl (nA Lm))), (y3, .inl (cI, 24, .inl (nA t))), (y4, .inl (cI, 25, .inl (nA f2_24))), (y5, .inl (cI, 24, .inl C2_24))] H := hP
    refine W.eq (g2 := F0 mi 27 ls [.int (nI (costN n (ctM t n K Lm k))), .int ea, .ref y0]) rfl ?_
    refine lv_iadd hx hb dX5_send_27 ?_
    refine z_put hx hb hts hi_5 tyX5 tyX5_ok nmX5 hown hK hP hD rfl hS 0 rfl rfl 10 (by decide) f_113 (fun _ h => h) rfl (by decide +kernel) (Nat.le_of_ble_eq_true rfl) dX5_send_28 (fun H locs hP hS => ?_)
    have hP : va_P D vwCl [(y0, .inr (5, [.int (nI 0), .int (nI k), .ref y1, .ref y2, .int (nI n), .ref y3, .int (nI q), .int (nI sg), .int rp, .int lo, .int (ea + (nI (costN n (ctM t n K Lm k)))), .ref y4, .ref y5, .int (nI go), .int (nI ak), .int (nI gn), .int (nI gf)])), (y1, .inl (cI, 9, .inl K)), (y2, .inl (cI, 9, .inl (nA Lm))), (y3, .inl (cI, 24, .inl (nA t))), (y4, .inl (cI, 25, .inl (nA f2_24))), (y5, .inl (cI, 24, .inl C2_24))] H := hP
    refine lv_aload_n hx hb dX5_send_31 rfl (lv_at hl 0 rfl) ?_
    refine lv_aload_n hx hb dX5_send_32 rfl (lv_at hl 0 rfl) ?_
    refine z_muV (As := []) (rest := [.ref y0]) ⟨hx, hb, hml, hown, hts⟩ (c_X5_all l D cI y0 y1 y2 y3 y4 y5 0 k n q sg rp lo (ea + (nI (costN n (ctM t n K Lm k)))) go ak gn gf K Lm t f2_24 C2_24 (by first | assumption | omega) (by first | assumption | omega) (by first | assumption | omega) (by first | assumption | omega)) (cwV 0 hts gX5_send_X5_all rfl rfl rfl hd_X5_all ⟨Nat.le_of_ble_eq_true rfl, Nat.le_of_ble_eq_true rfl⟩) ⟨hK, hE⟩ hP hD rfl hS [0, 1, 2, 3, 4, 5] (by decide) rfl (fun _ => rfl) (va_recv hK hP (ci := 5) (q0 := 0) rfl rfl) rfl hl.1 rfl (Nat.le_of_ble_eq_true rfl) dX5_send_33 (Nat.zero_le _) (Nat.zero_le _) (fun v9 u9 H locs hp hP hS => ?_)
    obtain ⟨f2_33, C2_33⟩ := u9
    obtain ⟨rfl, hom_33⟩ := hp
    try dsimp only at hom_33
    have hP : va_P D vwCl [(y0, .inr (5, [.int (nI 0), .int (nI k), .ref y1, .ref y2, .int (nI n), .ref y3, .int (nI q), .int (nI sg), .int rp, .int lo, .int (ea + (nI (costN n (ctM t n K Lm k)))), .ref y4, .ref y5, .int (nI go), .int (nI ak), .int (nI gn), .int (nI gf)])), (y1, .inl (cI, 9, .inl K)), (y2, .inl (cI, 9, .inl (nA Lm))), (y3, .inl (cI, 24, .inl (nA t))), (y4, .inl (cI, 25, .inl (nA f2_33))), (y5, .inl (cI, 24, .inl C2_33))] H := hP
    refine W.eq (g2 := F0 mi 36 ls [.int (nI (gM t n K Lm k (-1))), .ref y0]) rfl ?_
    refine lv_aload_n hx hb dX5_send_36 rfl (lv_at hl 0 rfl) ?_
    refine va_get (v := .int (nI q)) hx hb hts hi_5 hown hK hP 0 rfl rfl 6 (by decide) f_19 (fun _ h => h) rfl dX5_send_37 ?_
    refine z_muV (As := [.int (nI (gM t n K Lm k (-1))), .int (nI q)]) (rest := []) ⟨hx, hb, hml, hown, hts⟩ (c_X5_go l D cI y0 y1 y2 y3 y4 y5 0 k n q sg rp lo (ea + (nI (costN n (ctM t n K Lm k)))) go ak gn gf (gM t n K Lm k (-1)) q (by have := gM_leU (t := t) (bu := -1) hLk hKk (n := n); omega) (by first | assumption | omega) (by first | assumption | omega)) (cwV 2 hts gX5_send_X5_go rfl rfl rfl hd_X5_go ⟨Nat.le_of_ble_eq_true rfl, Nat.le_of_ble_eq_true rfl⟩) ⟨hK, hE⟩ hP hD rfl hS [0] (by decide) rfl (fun _ => rfl) (va_recv hK hP (ci := 5) (q0 := 0) rfl rfl) rfl hl.1 rfl (Nat.le_of_ble_eq_true rfl) dX5_send_40 (Nat.zero_le _) (Nat.zero_le _) (fun v9 u9 H locs hp hP hS => ?_)
    obtain ⟨go2_40, ak2_40, gn2_40, gf2_40⟩ := u9
    obtain ⟨rfl, hgo_40, d_ak2_40, d_gn2_40, d_gf2_40⟩ := hp
    try dsimp only at hgo_40 d_ak2_40 d_gn2_40 d_gf2_40
    subst d_ak2_40
    subst d_gn2_40
    subst d_gf2_40
    have hP : va_P D vwCl [(y0, .inr (5, [.int (nI 0), .int (nI k), .ref y1, .ref y2, .int (nI n), .ref y3, .int (nI q), .int (nI sg), .int rp, .int lo, .int (ea + (nI (costN n (ctM t n K Lm k)))), .ref y4, .ref y5, .int (nI go2_40), .int (nI (akN q sg (gM t n K Lm k (-1)))), .int (nI (gnN q sg (gM t n K Lm k (-1)))), .int (nI (gfN q sg (gM t n K Lm k (-1))))])), (y1, .inl (cI, 9, .inl K)), (y2, .inl (cI, 9, .inl (nA Lm))), (y3, .inl (cI, 24, .inl (nA t))), (y4, .inl (cI, 25, .inl (nA f2_33))), (y5, .inl (cI, 24, .inl C2_33))] H := hP
    refine W.eq (g2 := F0 mi 43 ls []) rfl ?_
    refine lv_aload_n hx hb dX5_send_43 rfl (lv_at hl 0 rfl) ?_
    refine lv_dup hx hb dX5_send_44 rfl ?_
    refine va_get (v := .int (nI sg)) hx hb hts hi_5 hown hK hP 0 rfl rfl 7 (by decide) f_78 (fun _ h => h) rfl dX5_send_45 ?_
    refine lv_aload_n hx hb dX5_send_48 rfl (lv_at hl 0 rfl) ?_
    refine va_get (v := .int (nI go2_40)) hx hb hts hi_5 hown hK hP 0 rfl rfl 13 (by decide) f_66 (fun _ h => h) rfl dX5_send_49 ?_
    refine z_iadd hx hb dX5_send_52 ?_
    refine z_put hx hb hts hi_5 tyX5 tyX5_ok nmX5 hown hK hP hD rfl hS 0 rfl rfl 7 (by decide) f_78 (fun _ h => h) rfl (by decide +kernel) (Nat.le_of_ble_eq_true rfl) dX5_send_53 (fun H locs hP hS => ?_)
    have hP : va_P D vwCl [(y0, .inr (5, [.int (nI 0), .int (nI k), .ref y1, .ref y2, .int (nI n), .ref y3, .int (nI q), .int (nI (sg + go2_40)), .int rp, .int lo, .int (ea + (nI (costN n (ctM t n K Lm k)))), .ref y4, .ref y5, .int (nI go2_40), .int (nI (akN q sg (gM t n K Lm k (-1)))), .int (nI (gnN q sg (gM t n K Lm k (-1)))), .int (nI (gfN q sg (gM t n K Lm k (-1))))])), (y1, .inl (cI, 9, .inl K)), (y2, .inl (cI, 9, .inl (nA Lm))), (y3, .inl (cI, 24, .inl (nA t))), (y4, .inl (cI, 25, .inl (nA f2_33))), (y5, .inl (cI, 24, .inl C2_33))] H := hP
    refine lv_aload_n hx hb dX5_send_56 rfl (lv_at hl 0 rfl) ?_
    refine lv_dup hx hb dX5_send_57 rfl ?_
    refine va_get (v := .int rp) hx hb hts hi_5 hown hK hP 0 rfl rfl 8 (by decide) f_119 (fun _ h => h) rfl dX5_send_58 ?_
    refine lv_aload_n hx hb dX5_send_61 rfl (lv_at hl 0 rfl) ?_
    refine va_get (v := .int (nI (akN q sg (gM t n K Lm k (-1))))) hx hb hts hi_5 hown hK hP 0 rfl rfl 14 (by decide) f_69 (fun _ h => h) rfl dX5_send_62 ?_
    refine lv_iadd hx hb dX5_send_65 ?_
    refine z_put hx hb hts hi_5 tyX5 tyX5_ok nmX5 hown hK hP hD rfl hS 0 rfl rfl 8 (by decide) f_119 (fun _ h => h) rfl (by decide +kernel) (Nat.le_of_ble_eq_true rfl) dX5_send_66 (fun H locs hP hS => ?_)
    have hP : va_P D vwCl [(y0, .inr (5, [.int (nI 0), .int (nI k), .ref y1, .ref y2, .int (nI n), .ref y3, .int (nI q), .int (nI (sg + go2_40)), .int (rp + (nI (akN q sg (gM t n K Lm k (-1))))), .int lo, .int (ea + (nI (costN n (ctM t n K Lm k)))), .ref y4, .ref y5, .int (nI go2_40), .int (nI (akN q sg (gM t n K Lm k (-1)))), .int (nI (gnN q sg (gM t n K Lm k (-1)))), .int (nI (gfN q sg (gM t n K Lm k (-1))))])), (y1, .inl (cI, 9, .inl K)), (y2, .inl (cI, 9, .inl (nA Lm))), (y3, .inl (cI, 24, .inl (nA t))), (y4, .inl (cI, 25, .inl (nA f2_33))), (y5, .inl (cI, 24, .inl C2_33))] H := hP
    refine lv_aload_n hx hb dX5_send_69 rfl (lv_at hl 0 rfl) ?_
    refine lv_dup hx hb dX5_send_70 rfl ?_
    refine va_get (v := .int lo) hx hb hts hi_5 hown hK hP 0 rfl rfl 9 (by decide) f_122 (fun _ h => h) rfl dX5_send_71 ?_
    refine lv_aload_n hx hb dX5_send_74 rfl (lv_at hl 0 rfl) ?_
    refine va_get (v := .int (nI (gnN q sg (gM t n K Lm k (-1))))) hx hb hts hi_5 hown hK hP 0 rfl rfl 15 (by decide) f_72 (fun _ h => h) rfl dX5_send_75 ?_
    refine lv_iadd hx hb dX5_send_78 ?_
    refine z_put hx hb hts hi_5 tyX5 tyX5_ok nmX5 hown hK hP hD rfl hS 0 rfl rfl 9 (by decide) f_122 (fun _ h => h) rfl (by decide +kernel) (Nat.le_of_ble_eq_true rfl) dX5_send_79 (fun H locs hP hS => ?_)
    have hP : va_P D vwCl [(y0, .inr (5, [.int (nI 0), .int (nI k), .ref y1, .ref y2, .int (nI n), .ref y3, .int (nI q), .int (nI (sg + go2_40)), .int (rp + (nI (akN q sg (gM t n K Lm k (-1))))), .int (lo + (nI (gnN q sg (gM t n K Lm k (-1))))), .int (ea + (nI (costN n (ctM t n K Lm k)))), .ref y4, .ref y5, .int (nI go2_40), .int (nI (akN q sg (gM t n K Lm k (-1)))), .int (nI (gnN q sg (gM t n K Lm k (-1)))), .int (nI (gfN q sg (gM t n K Lm k (-1))))])), (y1, .inl (cI, 9, .inl K)), (y2, .inl (cI, 9, .inl (nA Lm))), (y3, .inl (cI, 24, .inl (nA t))), (y4, .inl (cI, 25, .inl (nA f2_33))), (y5, .inl (cI, 24, .inl C2_33))] H := hP
    refine lv_aload_n hx hb dX5_send_82 rfl (lv_at hl 0 rfl) ?_
    refine lv_iconst (v := nI 0) hx hb dX5_send_83 ci_0 ?_
    refine z_put hx hb hts hi_5 tyX5 tyX5_ok nmX5 hown hK hP hD rfl hS 0 rfl rfl 4 (by decide) f_39 (fun _ h => h) rfl (by decide +kernel) (Nat.le_of_ble_eq_true rfl) dX5_send_84 (fun H locs hP hS => ?_)
    have hP : va_P D vwCl [(y0, .inr (5, [.int (nI 0), .int (nI k), .ref y1, .ref y2, .int (nI 0), .ref y3, .int (nI q), .int (nI (sg + go2_40)), .int (rp + (nI (akN q sg (gM t n K Lm k (-1))))), .int (lo + (nI (gnN q sg (gM t n K Lm k (-1))))), .int (ea + (nI (costN n (ctM t n K Lm k)))), .ref y4, .ref y5, .int (nI go2_40), .int (nI (akN q sg (gM t n K Lm k (-1)))), .int (nI (gnN q sg (gM t n K Lm k (-1)))), .int (nI (gfN q sg (gM t n K Lm k (-1))))])), (y1, .inl (cI, 9, .inl K)), (y2, .inl (cI, 9, .inl (nA Lm))), (y3, .inl (cI, 24, .inl (nA t))), (y4, .inl (cI, 25, .inl (nA f2_33))), (y5, .inl (cI, 24, .inl C2_33))] H := hP
    refine lv_aload_n hx hb dX5_send_87 rfl (lv_at hl 0 rfl) ?_
    refine va_get (v := .int (nI (gnN q sg (gM t n K Lm k (-1))))) hx hb hts hi_5 hown hK hP 0 rfl rfl 15 (by decide) f_72 (fun _ h => h) rfl dX5_send_88 ?_
    exact mu_iret hA hQ hx hb hr hlocks (0, 0, sg + go2_40, rp + (nI (akN q sg (gM t n K Lm k (-1)))), lo + (nI (gnN q sg (gM t n K Lm k (-1)))), (ea + (nI (costN n (ctM t n K Lm k)))), nI ((gnN q sg (gM t n K Lm k (-1)))), f2_33, C2_33, go2_40, (akN q sg (gM t n K Lm k (-1))), (gnN q sg (gM t n K Lm k (-1))), (gfN q sg (gM t n K Lm k (-1)))) hP hS ⟨rfl, Or.inl ⟨c_9, rfl, rfl, hgo_40, rfl, rfl, rfl, rfl⟩⟩ dX5_send_91
  · refine lv_aload_n hx hb dX5_send_12 rfl (lv_at hl 0 rfl) ?_
    refine lv_iconst (v := nI 1) hx hb dX5_send_13 ci_1 ?_
    refine z_muV (As := [.int (nI 1)]) (rest := []) ⟨hx, hb, hml, hown, hts⟩ (c_X5_fail l D cI y0 y1 y2 y3 y4 y5 0 k n q sg rp lo ea go ak gn gf 1) (cwV 1 hts gX5_send_X5_fail rfl rfl rfl hd_X5_fail ⟨Nat.le_of_ble_eq_true rfl, Nat.le_of_ble_eq_true rfl⟩) ⟨hK, hE⟩ hP hD rfl hS [0] (by decide) rfl (fun _ => rfl) (va_recv hK hP (ci := 5) (q0 := 0) rfl rfl) rfl hl.1 rfl (Nat.le_of_ble_eq_true rfl) dX5_send_14 (Nat.zero_le _) (Nat.zero_le _) (fun v9 u9 H locs hp hP hS => ?_)
    obtain rfl := hp
    have hP : va_P D vwCl [(y0, .inr (5, [.int (nI 1), .int (nI k), .ref y1, .ref y2, .int (nI n), .ref y3, .int (nI q), .int (nI sg), .int rp, .int lo, .int ea, .ref y4, .ref y5, .int (nI go), .int (nI ak), .int (nI gn), .int (nI gf)])), (y1, .inl (cI, 9, .inl K)), (y2, .inl (cI, 9, .inl (nA Lm))), (y3, .inl (cI, 24, .inl (nA t))), (y4, .inl (cI, 25, .inl (nA f))), (y5, .inl (cI, 24, .inl C))] H := hP
    refine W.eq (g2 := F0 mi 17 ls [.int (nI 0)]) rfl ?_
    exact mu_iret hA hQ hx hb hr hlocks (1, n, sg, rp, lo, ea, nI (0), f, C, go, ak, gn, gf) hP hS ⟨rfl, Or.inr ⟨c_9, rfl, rfl, rfl, rfl, rfl, rfl, rfl⟩⟩ dX5_send_17
set_option maxHeartbeats 4000000 in
set_option maxRecDepth 100000 in
theorem c_X5_dropCode (l : Launch) (D : va_G) (cI : ClassId) (y0 : Nat) (y1 : Nat) (y2 : Nat) (y3 : Nat) (y4 : Nat) (y5 : Nat) (th : Nat) (k : Nat) (n : Nat) (q : Nat) (sg : Nat) (rp : Int32) (lo : Int32) (ea : Int32) (go : Nat) (ak : Nat) (gn : Nat) (gf : Nat) (K : Nat → Int32) (Lm : Nat → Nat) (x : Int32) (hk : k ≤ 8) : MU l yX5_dropCode wsX5_dropCode rm_X5_dropCode D cI [(y0, .inr (5, [.int (nI th), .int (nI k), .ref y1, .ref y2, .int (nI n), .ref y3, .int (nI q), .int (nI sg), .int rp, .int lo, .int ea, .ref y4, .ref y5, .int (nI go), .int (nI ak), .int (nI gn), .int (nI gf)])), (y1, .inl (cI, 9, .inl K)), (y2, .inl (cI, 9, .inl (nA Lm)))] [.ref y0, .int x] (fun (v9 : Option Value) (u9 : Nat × Nat × Int32 × (Nat → Int32) × (Nat → Nat)) => v9 = some (.int u9.2.2.1) ∧ ((∃ j : Nat, j < k ∧ x = nI j ∧ u9.1 = 0 ∧ u9.2.1 = k - 1 ∧ u9.2.2.1 = nI (Lm j) ∧ ShI K u9.2.2.2.1 j (k - 1) ∧ ShI Lm u9.2.2.2.2 j (k - 1)) ∨ ((¬ ∃ j : Nat, j < k ∧ x = nI j) ∧ u9.1 = 1 ∧ u9.2.1 = k ∧ u9.2.2.1 = nI 0 ∧ u9.2.2.2.1 = K ∧ u9.2.2.2.2 = Lm))) (fun (u9 : Nat × Nat × Int32 × (Nat → Int32) × (Nat → Nat)) => [(y0, .inr (5, [.int (nI u9.1), .int (nI u9.2.1), .ref y1, .ref y2, .int (nI n), .ref y3, .int (nI q), .int (nI sg), .int rp, .int lo, .int ea, .ref y4, .ref y5, .int (nI go), .int (nI ak), .int (nI gn), .int (nI gf)])), (y1, .inl (cI, 9, .inl u9.2.2.2.1)), (y2, .inl (cI, 9, .inl (nA u9.2.2.2.2)))]) := by
  refine mu_of (C := RX5) (cc := cX5_dropCode) (maxL := 4) (ret := (some .int)) rfl (by decide) rfl (Nat.le_of_ble_eq_true rfl) ?_
  intro pg ev sv mi ag bl mt cd ls Q A hA hQ hx hb hr hlocks hml hts hown hK hE hD H locs hP hS hl
  have hD : zDD A [y0, y1, y2] := hD
  have hl : lv_has ls 4 [(0, .ref y0), (1, .int x)] := hl
  have f_29 := hts (.fieldLink RX5 29 "TelegraphDeskModel" "thrown" "I") (by decide +kernel)
  have f_13 := hts (.fieldLink RX5 13 "TelegraphDeskModel" "length" "[I") (by decide +kernel)
  have f_36 := hts (.fieldLink RX5 36 "TelegraphDeskModel" "codes" "I") (by decide +kernel)
  have f_9 := hts (.fieldLink RX5 9 "TelegraphDeskModel" "key" "[I") (by decide +kernel)
  have hi_5 : ∀ w ∈ wsX50, w ∈ wsX5_dropCode := by decide +kernel
  refine lv_aload_n hx hb dX5_dropCode_0 rfl (lv_at hl 0 rfl) ?_
  refine lv_iconst (v := nI 0) hx hb dX5_dropCode_1 ci_0 ?_
  refine z_put hx hb hts hi_5 tyX5 tyX5_ok nmX5 hown hK hP hD rfl hS 0 rfl rfl 0 (by decide) f_29 (fun _ h => h) rfl (by decide +kernel) (Nat.le_of_ble_eq_true rfl) dX5_dropCode_2 (fun H locs hP hS => ?_)
  have hP : va_P D vwCl [(y0, .inr (5, [.int (nI 0), .int (nI k), .ref y1, .ref y2, .int (nI n), .ref y3, .int (nI q), .int (nI sg), .int rp, .int lo, .int ea, .ref y4, .ref y5, .int (nI go), .int (nI ak), .int (nI gn), .int (nI gf)])), (y1, .inl (cI, 9, .inl K)), (y2, .inl (cI, 9, .inl (nA Lm)))] H := hP
  refine lv_aload_n hx hb dX5_dropCode_5 rfl (lv_at hl 0 rfl) ?_
  refine lv_iload_n hx hb dX5_dropCode_6 rfl (lv_at hl 1 rfl) ?_
  refine z_roV (As := [.int x]) (rest := []) ⟨hx, hb, hml, hown, hts⟩ (c_X5_isCode l D cI y0 y1 y2 y3 y4 y5 0 k n q sg rp lo ea go ak gn gf x (by first | assumption | omega)) (cwV 1 hts gX5_dropCode_X5_isCode rfl rfl rfl hd_X5_isCode ⟨Nat.le_of_ble_eq_true rfl, Nat.le_of_ble_eq_true rfl⟩) ⟨hK, hE⟩ (hP.sub (ws' := [(y0, .inr (5, [.int (nI 0), .int (nI k), .ref y1, .ref y2, .int (nI n), .ref y3, .int (nI q), .int (nI sg), .int rp, .int lo, .int ea, .ref y4, .ref y5, .int (nI go), .int (nI ak), .int (nI gn), .int (nI gf)]))]) [0] rfl) (va_recv hK hP (ci := 5) (q0 := 0) rfl rfl) rfl hl.1 rfl (Nat.le_of_ble_eq_true rfl) dX5_dropCode_7 (Nat.zero_le _) (Nat.zero_le _) ?_
  refine z_if_neP (tgt := 19) hx hb dX5_dropCode_10 (by decide) (fun c_10 => ?_) (fun c_10 => ?_)
  · obtain ⟨j, hj, rfl⟩ := c_10
    refine lv_aload_n hx hb dX5_dropCode_19 rfl (lv_at hl 0 rfl) ?_
    refine va_get (v := .ref y2) hx hb hts hi_5 hown hK hP 0 rfl rfl 3 (by decide) f_13 (fun _ h => h) rfl dX5_dropCode_20 ?_
    refine lv_iload_n hx hb dX5_dropCode_23 rfl (lv_at hl 1 rfl) ?_
    refine z_ialdN hx hb hK hP 2 0 rfl rfl (by omega) (by decide) dX5_dropCode_24 ?_
    refine lv_istore_n (lv' := [(2, .int (nI (Lm j))), (0, .ref y0), (1, .int (nI j))]) hx hb dX5_dropCode_25 rfl hl (by decide) rfl (fun ls hl => ?_)
    refine lv_aload_n hx hb dX5_dropCode_26 rfl (lv_at hl 1 rfl) ?_
    refine lv_dup hx hb dX5_dropCode_27 rfl ?_
    refine va_get (v := .int (nI k)) hx hb hts hi_5 hown hK hP 0 rfl rfl 1 (by decide) f_36 (fun _ h => h) rfl dX5_dropCode_28 ?_
    refine lv_iconst (v := nI 1) hx hb dX5_dropCode_31 ci_1 ?_
    refine z_isub hx hb dX5_dropCode_32 (by omega) ?_
    refine z_put hx hb hts hi_5 tyX5 tyX5_ok nmX5 hown hK hP hD rfl hS 0 rfl rfl 1 (by decide) f_36 (fun _ h => h) rfl (by decide +kernel) (Nat.le_of_ble_eq_true rfl) dX5_dropCode_33 (fun H locs hP hS => ?_)
    have hP : va_P D vwCl [(y0, .inr (5, [.int (nI 0), .int (nI (k - 1)), .ref y1, .ref y2, .int (nI n), .ref y3, .int (nI q), .int (nI sg), .int rp, .int lo, .int ea, .ref y4, .ref y5, .int (nI go), .int (nI ak), .int (nI gn), .int (nI gf)])), (y1, .inl (cI, 9, .inl K)), (y2, .inl (cI, 9, .inl (nA Lm)))] H := hP
    refine lv_iload_n hx hb dX5_dropCode_36 rfl (lv_at hl 2 rfl) ?_
    refine lv_istore_n (lv' := [(3, .int (nI j)), (2, .int (nI (Lm j))), (0, .ref y0), (1, .int (nI j))]) hx hb dX5_dropCode_37 rfl hl (by decide) rfl (fun ls hl => ?_)
    have lp_38 : ∀ (Nf : Nat) (i : Nat) (K1 : Nat → Int32) (L1 : Nat → Nat) (hi : j ≤ i ∧ i ≤ k - 1) (hsK : ShI K K1 j i) (hsL : ShI Lm L1 j i) (hN : k - i < Nf) (H : Heap) (locs : List Loc) (ls : Array Slot), va_P D vwCl [(y0, .inr (5, [.int (nI 0), .int (nI (k - 1)), .ref y1, .ref y2, .int (nI n), .ref y3, .int (nI q), .int (nI sg), .int rp, .int lo, .int ea, .ref y4, .ref y5, .int (nI go), .int (nI ak), .int (nI gn), .int (nI gf)])), (y1, .inl (cI, 9, .inl K1)), (y2, .inl (cI, 9, .inl (nA L1)))] H → va_S A sv.heap H locs → lv_has ls 4 [(3, .int (nI i)), (2, .int (nI (Lm j))), (0, .ref y0), (1, .int (nI j))] → W pg l ev rm_X5_dropCode sv mi ag bl mt cd H locs 0 0 Q (F0 mi 38 ls []) := by
      intro Nf
      induction Nf with
      | zero =>
        intro i K1 L1 hi hsK hsL hN
        exact absurd hN (Nat.not_lt_zero _)
      | succ Nf ih_38 =>
        intro i K1 L1 hi hsK hsL hN H locs ls hP hS hl
        refine lv_iload_n hx hb dX5_dropCode_38 rfl (lv_at hl 0 rfl) ?_
        refine lv_aload_n hx hb dX5_dropCode_39 rfl (lv_at hl 2 rfl) ?_
        refine va_get (v := .int (nI (k - 1))) hx hb hts hi_5 hown hK hP 0 rfl rfl 1 (by decide) f_36 (fun _ h => h) rfl dX5_dropCode_40 ?_
        refine z_icmp_ge (tgt := 80) hx hb dX5_dropCode_43 (by decide) (by omega) (by omega) (fun c_43 => ?_) (fun c_43 => ?_)
        · refine lv_iload_n hx hb dX5_dropCode_80 rfl (lv_at hl 1 rfl) ?_
          exact mu_iret hA hQ hx hb hr hlocks (0, k - 1, nI (Lm j), K1, L1) hP hS ⟨rfl, Or.inl ⟨j, hj, rfl, rfl, rfl, rfl, (by rw [show k - 1 = i by omega]; exact hsK), (by rw [show k - 1 = i by omega]; exact hsL)⟩⟩ dX5_dropCode_81
        · refine lv_aload_n hx hb dX5_dropCode_46 rfl (lv_at hl 2 rfl) ?_
          refine va_get (v := .ref y1) hx hb hts hi_5 hown hK hP 0 rfl rfl 2 (by decide) f_9 (fun _ h => h) rfl dX5_dropCode_47 ?_
          refine lv_iload_n hx hb dX5_dropCode_50 rfl (lv_at hl 0 rfl) ?_
          refine lv_aload_n hx hb dX5_dropCode_51 rfl (lv_at hl 2 rfl) ?_
          refine va_get (v := .ref y1) hx hb hts hi_5 hown hK hP 0 rfl rfl 2 (by decide) f_9 (fun _ h => h) rfl dX5_dropCode_52 ?_
          refine lv_iload_n hx hb dX5_dropCode_55 rfl (lv_at hl 0 rfl) ?_
          refine lv_iconst (v := nI 1) hx hb dX5_dropCode_56 ci_1 ?_
          refine z_iadd hx hb dX5_dropCode_57 ?_
          refine z_iald hx hb hK hP 1 0 rfl rfl (by omega) (by decide) dX5_dropCode_58 ?_
          refine z_iast hx hb hK hP hD rfl hS 1 0 rfl rfl (by omega) (by decide) dX5_dropCode_59 (fun H locs hP hS => ?_)
          have hP : va_P D vwCl [(y0, .inr (5, [.int (nI 0), .int (nI (k - 1)), .ref y1, .ref y2, .int (nI n), .ref y3, .int (nI q), .int (nI sg), .int rp, .int lo, .int ea, .ref y4, .ref y5, .int (nI go), .int (nI ak), .int (nI gn), .int (nI gf)])), (y1, .inl (cI, 9, .inl (upd K1 i (K1 (i + 1))))), (y2, .inl (cI, 9, .inl (nA L1)))] H := hP
          refine lv_aload_n hx hb dX5_dropCode_60 rfl (lv_at hl 2 rfl) ?_
          refine va_get (v := .ref y2) hx hb hts hi_5 hown hK hP 0 rfl rfl 3 (by decide) f_13 (fun _ h => h) rfl dX5_dropCode_61 ?_
          refine lv_iload_n hx hb dX5_dropCode_64 rfl (lv_at hl 0 rfl) ?_
          refine lv_aload_n hx hb dX5_dropCode_65 rfl (lv_at hl 2 rfl) ?_
          refine va_get (v := .ref y2) hx hb hts hi_5 hown hK hP 0 rfl rfl 3 (by decide) f_13 (fun _ h => h) rfl dX5_dropCode_66 ?_
          refine lv_iload_n hx hb dX5_dropCode_69 rfl (lv_at hl 0 rfl) ?_
          refine lv_iconst (v := nI 1) hx hb dX5_dropCode_70 ci_1 ?_
          refine z_iadd hx hb dX5_dropCode_71 ?_
          refine z_ialdN hx hb hK hP 2 0 rfl rfl (by omega) (by decide) dX5_dropCode_72 ?_
          refine z_iastN hx hb hK hP hD rfl hS 2 0 rfl rfl (by omega) (by decide) dX5_dropCode_73 (fun H locs hP hS => ?_)
          have hP : va_P D vwCl [(y0, .inr (5, [.int (nI 0), .int (nI (k - 1)), .ref y1, .ref y2, .int (nI n), .ref y3, .int (nI q), .int (nI sg), .int rp, .int lo, .int ea, .ref y4, .ref y5, .int (nI go), .int (nI ak), .int (nI gn), .int (nI gf)])), (y1, .inl (cI, 9, .inl (upd K1 i (K1 (i + 1))))), (y2, .inl (cI, 9, .inl (nA (updN L1 i (L1 (i + 1))))))] H := hP
          refine lv_iinc (v := nI (i + 1)) (lv' := [(3, .int (nI (i + 1))), (2, .int (nI (Lm j))), (0, .ref y0), (1, .int (nI j))]) hx hb dX5_dropCode_74 hl (k := 0) rfl (z_inc1 _) (by decide) rfl (fun ls hl => ?_)
          refine lv_goto (tgt := 38) hx hb dX5_dropCode_77 (by decide) ?_
          exact ih_38 (i + 1) (upd K1 i (K1 (i + 1))) (updN L1 i (L1 (i + 1))) ⟨by omega, by omega⟩ (sh_1 hsK hi.1) (sh_1N hsL hi.1) (by omega) H locs ls hP hS (lv_sub hl [0, 1, 2, 3] rfl)
    exact lp_38 ((k - j) + 1) j K Lm (⟨Nat.le_refl _, by omega⟩) (sh_0 _ _) (sh_0 _ _) (Nat.lt_succ_self _) H locs ls hP hS hl
  · refine lv_aload_n hx hb dX5_dropCode_13 rfl (lv_at hl 0 rfl) ?_
    refine lv_iconst (v := nI 1) hx hb dX5_dropCode_14 ci_1 ?_
    refine z_muV (As := [.int (nI 1)]) (rest := []) ⟨hx, hb, hml, hown, hts⟩ (c_X5_fail l D cI y0 y1 y2 y3 y4 y5 0 k n q sg rp lo ea go ak gn gf 1) (cwV 1 hts gX5_dropCode_X5_fail rfl rfl rfl hd_X5_fail ⟨Nat.le_of_ble_eq_true rfl, Nat.le_of_ble_eq_true rfl⟩) ⟨hK, hE⟩ hP hD rfl hS [0] (by decide) rfl (fun _ => rfl) (va_recv hK hP (ci := 5) (q0 := 0) rfl rfl) rfl hl.1 rfl (Nat.le_of_ble_eq_true rfl) dX5_dropCode_15 (Nat.zero_le _) (Nat.zero_le _) (fun v9 u9 H locs hp hP hS => ?_)
    obtain rfl := hp
    have hP : va_P D vwCl [(y0, .inr (5, [.int (nI 1), .int (nI k), .ref y1, .ref y2, .int (nI n), .ref y3, .int (nI q), .int (nI sg), .int rp, .int lo, .int ea, .ref y4, .ref y5, .int (nI go), .int (nI ak), .int (nI gn), .int (nI gf)])), (y1, .inl (cI, 9, .inl K)), (y2, .inl (cI, 9, .inl (nA Lm)))] H := hP
    refine W.eq (g2 := F0 mi 18 ls [.int (nI 0)]) rfl ?_
    exact mu_iret hA hQ hx hb hr hlocks (1, k, nI 0, K, Lm) hP hS ⟨rfl, Or.inr ⟨c_10, rfl, rfl, rfl, rfl, rfl⟩⟩ dX5_dropCode_18
set_option maxHeartbeats 4000000 in
set_option maxRecDepth 100000 in
theorem c_X5_meanLength (l : Launch) (D : va_G) (cI : ClassId) (y0 : Nat) (y1 : Nat) (y2 : Nat) (y3 : Nat) (y4 : Nat) (y5 : Nat) (th : Nat) (k : Nat) (n : Nat) (q : Nat) (sg : Nat) (rp : Int32) (lo : Int32) (ea : Int32) (go : Nat) (ak : Nat) (gn : Nat) (gf : Nat) (Lm : Nat → Nat) (hk : k ≤ 8) (hLk : ∀ c, c < k → 2 ≤ Lm c ∧ Lm c ≤ 4) : MU l yX5_meanLength wsX5_meanLength rm_X5_meanLength D cI [(y0, .inr (5, [.int (nI th), .int (nI k), .ref y1, .ref y2, .int (nI n), .ref y3, .int (nI q), .int (nI sg), .int rp, .int lo, .int ea, .ref y4, .ref y5, .int (nI go), .int (nI ak), .int (nI gn), .int (nI gf)])), (y2, .inl (cI, 9, .inl (nA Lm)))] [.ref y0] (fun (v9 : Option Value) (u9 : Unit) => v9 = some (.double (mlN Lm k))) (fun (u9 : Unit) => [(y0, .inr (5, [.int (nI 0), .int (nI k), .ref y1, .ref y2, .int (nI n), .ref y3, .int (nI q), .int (nI sg), .int rp, .int lo, .int ea, .ref y4, .ref y5, .int (nI go), .int (nI ak), .int (nI gn), .int (nI gf)])), (y2, .inl (cI, 9, .inl (nA Lm)))]) := by
  refine mu_of (C := RX5) (cc := cX5_meanLength) (maxL := 3) (ret := (some .double)) rfl (by decide) rfl (Nat.le_of_ble_eq_true rfl) ?_
  intro pg ev sv mi ag bl mt cd ls Q A hA hQ hx hb hr hlocks hml hts hown hK hE hD H locs hP hS hl
  have hD : zDD A [y0, y2] := hD
  have hl : lv_has ls 3 [(0, .ref y0)] := hl
  have f_29 := hts (.fieldLink RX5 29 "TelegraphDeskModel" "thrown" "I") (by decide +kernel)
  have f_36 := hts (.fieldLink RX5 36 "TelegraphDeskModel" "codes" "I") (by decide +kernel)
  have f_13 := hts (.fieldLink RX5 13 "TelegraphDeskModel" "length" "[I") (by decide +kernel)
  have hi_5 : ∀ w ∈ wsX50, w ∈ wsX5_meanLength := by decide +kernel
  refine lv_aload_n hx hb dX5_meanLength_0 rfl (lv_at hl 0 rfl) ?_
  refine lv_iconst (v := nI 0) hx hb dX5_meanLength_1 ci_0 ?_
  refine z_put hx hb hts hi_5 tyX5 tyX5_ok nmX5 hown hK hP hD rfl hS 0 rfl rfl 0 (by decide) f_29 (fun _ h => h) rfl (by decide +kernel) (Nat.le_of_ble_eq_true rfl) dX5_meanLength_2 (fun H locs hP hS => ?_)
  have hP : va_P D vwCl [(y0, .inr (5, [.int (nI 0), .int (nI k), .ref y1, .ref y2, .int (nI n), .ref y3, .int (nI q), .int (nI sg), .int rp, .int lo, .int ea, .ref y4, .ref y5, .int (nI go), .int (nI ak), .int (nI gn), .int (nI gf)])), (y2, .inl (cI, 9, .inl (nA Lm)))] H := hP
  refine lv_iconst (v := nI 0) hx hb dX5_meanLength_5 ci_0 ?_
  refine lv_istore_n (lv' := [(1, .int (nI 0)), (0, .ref y0)]) hx hb dX5_meanLength_6 rfl hl (by decide) rfl (fun ls hl => ?_)
  refine lv_iconst (v := nI 0) hx hb dX5_meanLength_7 ci_0 ?_
  refine lv_istore_n (lv' := [(2, .int (nI 0)), (1, .int (nI 0)), (0, .ref y0)]) hx hb dX5_meanLength_8 rfl hl (by decide) rfl (fun ls hl => ?_)
  have lp_9 : ∀ (Nf : Nat) (i : Nat) (hi : i ≤ k) (hN : k - i < Nf) (H : Heap) (locs : List Loc) (ls : Array Slot), va_P D vwCl [(y0, .inr (5, [.int (nI 0), .int (nI k), .ref y1, .ref y2, .int (nI n), .ref y3, .int (nI q), .int (nI sg), .int rp, .int lo, .int ea, .ref y4, .ref y5, .int (nI go), .int (nI ak), .int (nI gn), .int (nI gf)])), (y2, .inl (cI, 9, .inl (nA Lm)))] H → va_S A sv.heap H locs → lv_has ls 3 [(2, .int (nI i)), (1, .int (nI (sN Lm i))), (0, .ref y0)] → W pg l ev rm_X5_meanLength sv mi ag bl mt cd H locs 0 0 Q (F0 mi 9 ls []) := by
    intro Nf
    induction Nf with
    | zero =>
      intro i hi hN
      exact absurd hN (Nat.not_lt_zero _)
    | succ Nf ih_9 =>
      intro i hi hN H locs ls hP hS hl
      refine lv_iload_n hx hb dX5_meanLength_9 rfl (lv_at hl 0 rfl) ?_
      refine lv_aload_n hx hb dX5_meanLength_10 rfl (lv_at hl 2 rfl) ?_
      refine va_get (v := .int (nI k)) hx hb hts hi_5 hown hK hP 0 rfl rfl 1 (by decide) f_36 (fun _ h => h) rfl dX5_meanLength_11 ?_
      refine z_icmp_ge (tgt := 32) hx hb dX5_meanLength_14 (by decide) (by omega) (by omega) (fun c_14 => ?_) (fun c_14 => ?_)
      · have hsl := sN_le (f := Lm) (b := 4) k (fun j hj => (hLk j hj).2)
        have hik : i = k := by omega
        refine lv_aload_n hx hb dX5_meanLength_32 rfl (lv_at hl 2 rfl) ?_
        refine va_get (v := .int (nI k)) hx hb hts hi_5 hown hK hP 0 rfl rfl 1 (by decide) f_36 (fun _ h => h) rfl dX5_meanLength_33 ?_
        refine z_if_ne (tgt := 43) hx hb dX5_meanLength_36 (by decide) (by omega) (fun c_36 => ?_) (fun c_36 => ?_)
        · refine lv_iload_n hx hb dX5_meanLength_43 rfl (lv_at hl 1 rfl) ?_
          refine lv_i2d hx hb dX5_meanLength_44 ?_
          refine lv_aload_n hx hb dX5_meanLength_45 rfl (lv_at hl 2 rfl) ?_
          refine va_get (v := .int (nI k)) hx hb hts hi_5 hown hK hP 0 rfl rfl 1 (by decide) f_36 (fun _ h => h) rfl dX5_meanLength_46 ?_
          refine lv_i2d hx hb dX5_meanLength_49 ?_
          refine lv_ddiv hx hb dX5_meanLength_50 (by rw [hik]; exact ml_nan (by omega) (by omega) c_36) ?_
          exact mu_dret hA hQ hx hb hr hlocks () hP hS (by first | (rw [mlN, if_pos c_36]; done) | (rw [mlN, if_neg (by omega), hik]; done)) dX5_meanLength_51
        · refine lv_dconst0 hx hb dX5_meanLength_39 ?_
          refine lv_goto (tgt := 51) hx hb dX5_meanLength_40 (by decide) ?_
          exact mu_dret hA hQ hx hb hr hlocks () hP hS (by first | (rw [mlN, if_pos c_36]; done) | (rw [mlN, if_neg (by omega), hik]; done)) dX5_meanLength_51
      · refine lv_iload_n hx hb dX5_meanLength_17 rfl (lv_at hl 1 rfl) ?_
        refine lv_aload_n hx hb dX5_meanLength_18 rfl (lv_at hl 2 rfl) ?_
        refine va_get (v := .ref y2) hx hb hts hi_5 hown hK hP 0 rfl rfl 3 (by decide) f_13 (fun _ h => h) rfl dX5_meanLength_19 ?_
        refine lv_iload_n hx hb dX5_meanLength_22 rfl (lv_at hl 0 rfl) ?_
        refine z_ialdN hx hb hK hP 1 0 rfl rfl (by omega) (by decide) dX5_meanLength_23 ?_
        refine z_iadd hx hb dX5_meanLength_24 ?_
        refine lv_istore_n (lv' := [(1, .int (nI ((sN Lm i) + (Lm i)))), (2, .int (nI i)), (0, .ref y0)]) hx hb dX5_meanLength_25 rfl hl (by decide) rfl (fun ls hl => ?_)
        refine lv_iinc (v := nI (i + 1)) (lv' := [(2, .int (nI (i + 1))), (1, .int (nI ((sN Lm i) + (Lm i)))), (0, .ref y0)]) hx hb dX5_meanLength_26 hl (k := 1) rfl (z_inc1 _) (by decide) rfl (fun ls hl => ?_)
        refine lv_goto (tgt := 9) hx hb dX5_meanLength_29 (by decide) ?_
        exact ih_9 (i + 1) (by omega) (by omega) H locs ls hP hS (lv_sub hl [0, 1, 2] rfl)
  exact lp_9 ((k - 0) + 1) 0 (Nat.zero_le _) (Nat.lt_succ_self _) H locs ls hP hS hl
set_option maxHeartbeats 4000000 in
set_option maxRecDepth 100000 in
theorem c_X5_addCode (l : Launch) (D : va_G) (cI : ClassId) (y0 : Nat) (y1 : Nat) (y2 : Nat) (y3 : Nat) (y4 : Nat) (y5 : Nat) (th : Nat) (k : Nat) (n : Nat) (q : Nat) (sg : Nat) (rp : Int32) (lo : Int32) (ea : Int32) (go : Nat) (ak : Nat) (gn : Nat) (gf : Nat) (K : Nat → Int32) (Lm : Nat → Nat) (x1 : Int32) (x2 : Int32) (x3 : Int32) (x4 : Int32) (hk : k ≤ 8) : MU l yX5_addCode wsX5_addCode rm_X5_addCode D cI [(y0, .inr (5, [.int (nI th), .int (nI k), .ref y1, .ref y2, .int (nI n), .ref y3, .int (nI q), .int (nI sg), .int rp, .int lo, .int ea, .ref y4, .ref y5, .int (nI go), .int (nI ak), .int (nI gn), .int (nI gf)])), (y1, .inl (cI, 9, .inl K)), (y2, .inl (cI, 9, .inl (nA Lm)))] [.ref y0, .int x1, .int x2, .int x3, .int x4] (fun (v9 : Option Value) (u9 : Nat × Nat × Int32 × (Nat → Int32) × (Nat → Nat)) => v9 = some (.int u9.2.2.1) ∧ ((¬ acBad x1 x2 x3 x4 ∧ (¬ acDm K k (acK x1 x2 x3 x4) k) ∧ u9.1 = 0 ∧ u9.2.1 = k + 1 ∧ u9.2.2.1 = nI k ∧ u9.2.2.2.1 = upd K k (acK x1 x2 x3 x4) ∧ u9.2.2.2.2 = updN Lm k (clen x3 x4)) ∨ (acBad x1 x2 x3 x4 ∧ u9.1 = 1 ∧ u9.2.1 = k ∧ u9.2.2.1 = nI 0 ∧ u9.2.2.2.1 = K ∧ u9.2.2.2.2 = Lm) ∨ (¬ acBad x1 x2 x3 x4 ∧ acDm K k (acK x1 x2 x3 x4) k ∧ u9.1 = 2 ∧ u9.2.1 = k ∧ u9.2.2.1 = nI 0 ∧ u9.2.2.2.1 = K ∧ u9.2.2.2.2 = Lm))) (fun (u9 : Nat × Nat × Int32 × (Nat → Int32) × (Nat → Nat)) => [(y0, .inr (5, [.int (nI u9.1), .int (nI u9.2.1), .ref y1, .ref y2, .int (nI n), .ref y3, .int (nI q), .int (nI sg), .int rp, .int lo, .int ea, .ref y4, .ref y5, .int (nI go), .int (nI ak), .int (nI gn), .int (nI gf)])), (y1, .inl (cI, 9, .inl u9.2.2.2.1)), (y2, .inl (cI, 9, .inl (nA u9.2.2.2.2)))]) := by
  refine mu_of (C := RX5) (cc := cX5_addCode) (maxL := 8) (ret := (some .int)) rfl (by decide) rfl (Nat.le_of_ble_eq_true rfl) ?_
  intro pg ev sv mi ag bl mt cd ls Q A hA hQ hx hb hr hlocks hml hts hown hK hE hD H locs hP hS hl
  have hD : zDD A [y0, y1, y2] := hD
  have hl : lv_has ls 8 [(0, .ref y0), (1, .int x1), (2, .int x2), (3, .int x3), (4, .int x4)] := hl
  have f_29 := hts (.fieldLink RX5 29 "TelegraphDeskModel" "thrown" "I") (by decide +kernel)
  have f_36 := hts (.fieldLink RX5 36 "TelegraphDeskModel" "codes" "I") (by decide +kernel)
  have f_9 := hts (.fieldLink RX5 9 "TelegraphDeskModel" "key" "[I") (by decide +kernel)
  have f_13 := hts (.fieldLink RX5 13 "TelegraphDeskModel" "length" "[I") (by decide +kernel)
  have hi_5 : ∀ w ∈ wsX50, w ∈ wsX5_addCode := by decide +kernel
  refine lv_aload_n hx hb dX5_addCode_0 rfl (lv_at hl 0 rfl) ?_
  refine lv_iconst (v := nI 0) hx hb dX5_addCode_1 ci_0 ?_
  refine z_put hx hb hts hi_5 tyX5 tyX5_ok nmX5 hown hK hP hD rfl hS 0 rfl rfl 0 (by decide) f_29 (fun _ h => h) rfl (by decide +kernel) (Nat.le_of_ble_eq_true rfl) dX5_addCode_2 (fun H locs hP hS => ?_)
  have hP : va_P D vwCl [(y0, .inr (5, [.int (nI 0), .int (nI k), .ref y1, .ref y2, .int (nI n), .ref y3, .int (nI q), .int (nI sg), .int rp, .int lo, .int ea, .ref y4, .ref y5, .int (nI go), .int (nI ak), .int (nI gn), .int (nI gf)])), (y1, .inl (cI, 9, .inl K)), (y2, .inl (cI, 9, .inl (nA Lm)))] H := hP
  refine lv_iload_n hx hb dX5_addCode_5 rfl (lv_at hl 1 rfl) ?_
  refine z_roS (As := [.int x1]) (rest := []) ⟨hx, hb, hml, hown, hts⟩ (c_X5_isType l D cI x1) (va_cwS 1 hts gX5_addCode_X5_isType rfl rfl rfl hd_X5_isType ⟨Nat.le_of_ble_eq_true rfl, Nat.le_of_ble_eq_true rfl⟩) ⟨hK, hE⟩ (va_P_nil _ _ _) rfl hl.1 rfl (Nat.le_of_ble_eq_true rfl) dX5_addCode_6 (Nat.zero_le _) (Nat.zero_le _) ?_
  refine z_if_eqP (tgt := 51) hx hb dX5_addCode_9 (by decide) (fun c_9 => ?_) (fun c_9 => ?_)
  · refine lv_aload_n hx hb dX5_addCode_51 rfl (lv_at hl 0 rfl) ?_
    refine lv_iconst (v := nI 1) hx hb dX5_addCode_52 ci_1 ?_
    refine z_muV (As := [.int (nI 1)]) (rest := []) ⟨hx, hb, hml, hown, hts⟩ (c_X5_fail l D cI y0 y1 y2 y3 y4 y5 0 k n q sg rp lo ea go ak gn gf 1) (cwV 1 hts gX5_addCode_X5_fail rfl rfl rfl hd_X5_fail ⟨Nat.le_of_ble_eq_true rfl, Nat.le_of_ble_eq_true rfl⟩) ⟨hK, hE⟩ hP hD rfl hS [0] (by decide) rfl (fun _ => rfl) (va_recv hK hP (ci := 5) (q0 := 0) rfl rfl) rfl hl.1 rfl (Nat.le_of_ble_eq_true rfl) dX5_addCode_53 (Nat.zero_le _) (Nat.zero_le _) (fun v9 u9 H locs hp hP hS => ?_)
    obtain rfl := hp
    have hP : va_P D vwCl [(y0, .inr (5, [.int (nI 1), .int (nI k), .ref y1, .ref y2, .int (nI n), .ref y3, .int (nI q), .int (nI sg), .int rp, .int lo, .int ea, .ref y4, .ref y5, .int (nI go), .int (nI ak), .int (nI gn), .int (nI gf)])), (y1, .inl (cI, 9, .inl K)), (y2, .inl (cI, 9, .inl (nA Lm)))] H := hP
    refine W.eq (g2 := F0 mi 56 ls [.int (nI 0)]) rfl ?_
    exact mu_iret hA hQ hx hb hr hlocks (1, k, nI 0, K, Lm) hP hS ⟨rfl, Or.inr (Or.inl ⟨(by first | exact Or.inl (Or.inl c_9) | exact Or.inl (Or.inr c_16) | exact Or.inr (Or.inl (Or.inl (fun z => c_26 (z_inM.mpr z)))) | exact Or.inr (Or.inl (Or.inr (fun z => c_37 (z_inM.mpr z)))) | exact Or.inr (Or.inr ⟨c_42, c_48⟩)), rfl, rfl, rfl, rfl, rfl⟩)⟩ dX5_addCode_56
  · refine lv_iload_n hx hb dX5_addCode_12 rfl (lv_at hl 2 rfl) ?_
    refine z_roS (As := [.int x2]) (rest := []) ⟨hx, hb, hml, hown, hts⟩ (c_X5_isType l D cI x2) (va_cwS 1 hts gX5_addCode_X5_isType rfl rfl rfl hd_X5_isType ⟨Nat.le_of_ble_eq_true rfl, Nat.le_of_ble_eq_true rfl⟩) ⟨hK, hE⟩ (va_P_nil _ _ _) rfl hl.1 rfl (Nat.le_of_ble_eq_true rfl) dX5_addCode_13 (Nat.zero_le _) (Nat.zero_le _) ?_
    refine z_if_eqP (tgt := 51) hx hb dX5_addCode_16 (by decide) (fun c_16 => ?_) (fun c_16 => ?_)
    · refine lv_aload_n hx hb dX5_addCode_51 rfl (lv_at hl 0 rfl) ?_
      refine lv_iconst (v := nI 1) hx hb dX5_addCode_52 ci_1 ?_
      refine z_muV (As := [.int (nI 1)]) (rest := []) ⟨hx, hb, hml, hown, hts⟩ (c_X5_fail l D cI y0 y1 y2 y3 y4 y5 0 k n q sg rp lo ea go ak gn gf 1) (cwV 1 hts gX5_addCode_X5_fail rfl rfl rfl hd_X5_fail ⟨Nat.le_of_ble_eq_true rfl, Nat.le_of_ble_eq_true rfl⟩) ⟨hK, hE⟩ hP hD rfl hS [0] (by decide) rfl (fun _ => rfl) (va_recv hK hP (ci := 5) (q0 := 0) rfl rfl) rfl hl.1 rfl (Nat.le_of_ble_eq_true rfl) dX5_addCode_53 (Nat.zero_le _) (Nat.zero_le _) (fun v9 u9 H locs hp hP hS => ?_)
      obtain rfl := hp
      have hP : va_P D vwCl [(y0, .inr (5, [.int (nI 1), .int (nI k), .ref y1, .ref y2, .int (nI n), .ref y3, .int (nI q), .int (nI sg), .int rp, .int lo, .int ea, .ref y4, .ref y5, .int (nI go), .int (nI ak), .int (nI gn), .int (nI gf)])), (y1, .inl (cI, 9, .inl K)), (y2, .inl (cI, 9, .inl (nA Lm)))] H := hP
      refine W.eq (g2 := F0 mi 56 ls [.int (nI 0)]) rfl ?_
      exact mu_iret hA hQ hx hb hr hlocks (1, k, nI 0, K, Lm) hP hS ⟨rfl, Or.inr (Or.inl ⟨(by first | exact Or.inl (Or.inl c_9) | exact Or.inl (Or.inr c_16) | exact Or.inr (Or.inl (Or.inl (fun z => c_26 (z_inM.mpr z)))) | exact Or.inr (Or.inl (Or.inr (fun z => c_37 (z_inM.mpr z)))) | exact Or.inr (Or.inr ⟨c_42, c_48⟩)), rfl, rfl, rfl, rfl, rfl⟩)⟩ dX5_addCode_56
    · refine lv_iload_n hx hb dX5_addCode_19 rfl (lv_at hl 3 rfl) ?_
      refine lv_iconst (v := -1) hx hb dX5_addCode_20 ci_m1 ?_
      refine z_bipush (n := 9) hx hb rfl (by decide) dX5_addCode_21 ?_
      refine z_roS (As := [.int x3, .int (-1), .int (nI 9)]) (rest := []) ⟨hx, hb, hml, hown, hts⟩ (c_X5_isIn l D cI x3 (-1) (nI 9)) (va_cwS 3 hts gX5_addCode_X5_isIn rfl rfl rfl hd_X5_isIn ⟨Nat.le_of_ble_eq_true rfl, Nat.le_of_ble_eq_true rfl⟩) ⟨hK, hE⟩ (va_P_nil _ _ _) rfl hl.1 rfl (Nat.le_of_ble_eq_true rfl) dX5_addCode_23 (Nat.zero_le _) (Nat.zero_le _) ?_
      refine z_if_eqP (tgt := 51) hx hb dX5_addCode_26 (by decide) (fun c_26 => ?_) (fun c_26 => ?_)
      · refine lv_aload_n hx hb dX5_addCode_51 rfl (lv_at hl 0 rfl) ?_
        refine lv_iconst (v := nI 1) hx hb dX5_addCode_52 ci_1 ?_
        refine z_muV (As := [.int (nI 1)]) (rest := []) ⟨hx, hb, hml, hown, hts⟩ (c_X5_fail l D cI y0 y1 y2 y3 y4 y5 0 k n q sg rp lo ea go ak gn gf 1) (cwV 1 hts gX5_addCode_X5_fail rfl rfl rfl hd_X5_fail ⟨Nat.le_of_ble_eq_true rfl, Nat.le_of_ble_eq_true rfl⟩) ⟨hK, hE⟩ hP hD rfl hS [0] (by decide) rfl (fun _ => rfl) (va_recv hK hP (ci := 5) (q0 := 0) rfl rfl) rfl hl.1 rfl (Nat.le_of_ble_eq_true rfl) dX5_addCode_53 (Nat.zero_le _) (Nat.zero_le _) (fun v9 u9 H locs hp hP hS => ?_)
        obtain rfl := hp
        have hP : va_P D vwCl [(y0, .inr (5, [.int (nI 1), .int (nI k), .ref y1, .ref y2, .int (nI n), .ref y3, .int (nI q), .int (nI sg), .int rp, .int lo, .int ea, .ref y4, .ref y5, .int (nI go), .int (nI ak), .int (nI gn), .int (nI gf)])), (y1, .inl (cI, 9, .inl K)), (y2, .inl (cI, 9, .inl (nA Lm)))] H := hP
        refine W.eq (g2 := F0 mi 56 ls [.int (nI 0)]) rfl ?_
        exact mu_iret hA hQ hx hb hr hlocks (1, k, nI 0, K, Lm) hP hS ⟨rfl, Or.inr (Or.inl ⟨(by first | exact Or.inl (Or.inl c_9) | exact Or.inl (Or.inr c_16) | exact Or.inr (Or.inl (Or.inl (fun z => c_26 (z_inM.mpr z)))) | exact Or.inr (Or.inl (Or.inr (fun z => c_37 (z_inM.mpr z)))) | exact Or.inr (Or.inr ⟨c_42, c_48⟩)), rfl, rfl, rfl, rfl, rfl⟩)⟩ dX5_addCode_56
      · refine lv_iload hx hb dX5_addCode_29 (lv_at hl 4 rfl) ?_
        refine lv_iconst (v := -1) hx hb dX5_addCode_31 ci_m1 ?_
        refine z_bipush (n := 9) hx hb rfl (by decide) dX5_addCode_32 ?_
        refine z_roS (As := [.int x4, .int (-1), .int (nI 9)]) (rest := []) ⟨hx, hb, hml, hown, hts⟩ (c_X5_isIn l D cI x4 (-1) (nI 9)) (va_cwS 3 hts gX5_addCode_X5_isIn rfl rfl rfl hd_X5_isIn ⟨Nat.le_of_ble_eq_true rfl, Nat.le_of_ble_eq_true rfl⟩) ⟨hK, hE⟩ (va_P_nil _ _ _) rfl hl.1 rfl (Nat.le_of_ble_eq_true rfl) dX5_addCode_34 (Nat.zero_le _) (Nat.zero_le _) ?_
        refine z_if_eqP (tgt := 51) hx hb dX5_addCode_37 (by decide) (fun c_37 => ?_) (fun c_37 => ?_)
        · refine lv_aload_n hx hb dX5_addCode_51 rfl (lv_at hl 0 rfl) ?_
          refine lv_iconst (v := nI 1) hx hb dX5_addCode_52 ci_1 ?_
          refine z_muV (As := [.int (nI 1)]) (rest := []) ⟨hx, hb, hml, hown, hts⟩ (c_X5_fail l D cI y0 y1 y2 y3 y4 y5 0 k n q sg rp lo ea go ak gn gf 1) (cwV 1 hts gX5_addCode_X5_fail rfl rfl rfl hd_X5_fail ⟨Nat.le_of_ble_eq_true rfl, Nat.le_of_ble_eq_true rfl⟩) ⟨hK, hE⟩ hP hD rfl hS [0] (by decide) rfl (fun _ => rfl) (va_recv hK hP (ci := 5) (q0 := 0) rfl rfl) rfl hl.1 rfl (Nat.le_of_ble_eq_true rfl) dX5_addCode_53 (Nat.zero_le _) (Nat.zero_le _) (fun v9 u9 H locs hp hP hS => ?_)
          obtain rfl := hp
          have hP : va_P D vwCl [(y0, .inr (5, [.int (nI 1), .int (nI k), .ref y1, .ref y2, .int (nI n), .ref y3, .int (nI q), .int (nI sg), .int rp, .int lo, .int ea, .ref y4, .ref y5, .int (nI go), .int (nI ak), .int (nI gn), .int (nI gf)])), (y1, .inl (cI, 9, .inl K)), (y2, .inl (cI, 9, .inl (nA Lm)))] H := hP
          refine W.eq (g2 := F0 mi 56 ls [.int (nI 0)]) rfl ?_
          exact mu_iret hA hQ hx hb hr hlocks (1, k, nI 0, K, Lm) hP hS ⟨rfl, Or.inr (Or.inl ⟨(by first | exact Or.inl (Or.inl c_9) | exact Or.inl (Or.inr c_16) | exact Or.inr (Or.inl (Or.inl (fun z => c_26 (z_inM.mpr z)))) | exact Or.inr (Or.inl (Or.inr (fun z => c_37 (z_inM.mpr z)))) | exact Or.inr (Or.inr ⟨c_42, c_48⟩)), rfl, rfl, rfl, rfl, rfl⟩)⟩ dX5_addCode_56
        · refine lv_iload_n hx hb dX5_addCode_40 rfl (lv_at hl 3 rfl) ?_
          refine lv_iconst (v := -1) hx hb dX5_addCode_41 ci_m1 ?_
          refine lv_icmp_ne (tgt := 57) hx hb dX5_addCode_42 (by decide) (fun c_42 => ?_) (fun c_42 => ?_)
          · refine z_bipush (n := 11) hx hb rfl (by decide) dX5_addCode_57 ?_
            refine lv_iload_n hx hb dX5_addCode_59 rfl (lv_at hl 1 rfl) ?_
            refine lv_iconst (v := nI 1) hx hb dX5_addCode_60 ci_1 ?_
            refine lv_iadd hx hb dX5_addCode_61 ?_
            refine lv_imul hx hb dX5_addCode_62 ?_
            refine lv_iload_n hx hb dX5_addCode_63 rfl (lv_at hl 2 rfl) ?_
            refine lv_iadd hx hb dX5_addCode_64 ?_
            refine lv_iconst (v := nI 1) hx hb dX5_addCode_65 ci_1 ?_
            refine lv_iadd hx hb dX5_addCode_66 ?_
            refine lv_istore (lv' := [(5, .int ((((nI 11) * (x1 + (nI 1))) + x2) + (nI 1))), (0, .ref y0), (1, .int x1), (2, .int x2), (3, .int x3), (4, .int x4)]) hx hb dX5_addCode_67 hl (by decide) rfl (fun ls hl => ?_)
            have hnb : ¬ acBad x1 x2 x3 x4 := by
              rintro ((h | h) | (h | h) | ⟨h, h2⟩)
              · exact h c_9
              · exact h c_16
              · exact h (z_inM.mp c_26)
              · exact h (z_inM.mp c_37)
              · first | exact c_42 h | exact h2 c_48
            refine lv_iload_n hx hb dX5_addCode_69 rfl (lv_at hl 4 rfl) ?_
            refine lv_iconst (v := -1) hx hb dX5_addCode_70 ci_m1 ?_
            rw [show (((nI 11) * (x1 + (nI 1))) + x2) + (nI 1) = ac2 x1 x2 from rfl] at hl
            refine lv_icmp_eq (tgt := 85) hx hb dX5_addCode_71 (by decide) (fun c_71 => ?_) (fun c_71 => ?_)
            · rw [show ac2 x1 x2 = acN (ac2 x1 x2) x3 from (by unfold acN; first | exact (if_pos c_71).symm | exact (if_neg c_71).symm)] at hl
              refine lv_iload hx hb dX5_addCode_85 (lv_at hl 5 rfl) ?_
              refine lv_iconst (v := -1) hx hb dX5_addCode_87 ci_m1 ?_
              refine lv_icmp_eq (tgt := 103) hx hb dX5_addCode_88 (by decide) (fun c_88 => ?_) (fun c_88 => ?_)
              · rw [show acN (ac2 x1 x2) x3 = acK x1 x2 x3 x4 from (by unfold acK; conv => { rhs; unfold acN }; first | exact (if_pos c_88).symm | exact (if_neg c_88).symm)] at hl
                refine lv_aload_n hx hb dX5_addCode_103 rfl (lv_at hl 1 rfl) ?_
                refine va_get (v := .int (nI k)) hx hb hts hi_5 hown hK hP 0 rfl rfl 1 (by decide) f_36 (fun _ h => h) rfl dX5_addCode_104 ?_
                refine z_bipush (n := 8) hx hb rfl (by decide) dX5_addCode_107 ?_
                refine z_icmp_ne (tgt := 116) hx hb dX5_addCode_109 (by decide) (by omega) (by omega) (fun c_109 => ?_) (fun c_109 => ?_)
                · refine lv_iconst (v := nI 0) hx hb dX5_addCode_116 ci_0 ?_
                  refine lv_istore (lv' := [(6, .int (nI 0)), (5, .int (acK x1 x2 x3 x4)), (0, .ref y0), (1, .int x1), (2, .int x2), (3, .int x3), (4, .int x4)]) hx hb dX5_addCode_117 hl (by decide) rfl (fun ls hl => ?_)
                  refine lv_iconst (v := nI 0) hx hb dX5_addCode_119 ci_0 ?_
                  refine lv_istore (lv' := [(7, .int (nI 0)), (6, .int (nI 0)), (5, .int (acK x1 x2 x3 x4)), (0, .ref y0), (1, .int x1), (2, .int x2), (3, .int x3), (4, .int x4)]) hx hb dX5_addCode_120 hl (by decide) rfl (fun ls hl => ?_)
                  have lp_122 : ∀ (Nf : Nat) (i : Nat) (fl : Nat) (hi : i ≤ k) (hf1 : fl ≤ 1) (hfl : (fl = 1 ∧ acDm K k (acK x1 x2 x3 x4) i) ∨ (fl = 0 ∧ ¬ acDm K k (acK x1 x2 x3 x4) i)) (hN : k - i < Nf) (H : Heap) (locs : List Loc) (ls : Array Slot), va_P D vwCl [(y0, .inr (5, [.int (nI 0), .int (nI k), .ref y1, .ref y2, .int (nI n), .ref y3, .int (nI q), .int (nI sg), .int rp, .int lo, .int ea, .ref y4, .ref y5, .int (nI go), .int (nI ak), .int (nI gn), .int (nI gf)])), (y1, .inl (cI, 9, .inl K)), (y2, .inl (cI, 9, .inl (nA Lm)))] H → va_S A sv.heap H locs → lv_has ls 8 [(7, .int (nI i)), (6, .int (nI fl)), (5, .int (acK x1 x2 x3 x4)), (0, .ref y0), (1, .int x1), (2, .int x2), (3, .int x3), (4, .int x4)] → W pg l ev rm_X5_addCode sv mi ag bl mt cd H locs 0 0 Q (F0 mi 122 ls []) := by
                    intro Nf
                    induction Nf with
                    | zero =>
                      intro i fl hi hf1 hfl hN
                      exact absurd hN (Nat.not_lt_zero _)
                    | succ Nf ih_122 =>
                      intro i fl hi hf1 hfl hN H locs ls hP hS hl
                      refine lv_iload hx hb dX5_addCode_122 (lv_at hl 0 rfl) ?_
                      refine lv_aload_n hx hb dX5_addCode_124 rfl (lv_at hl 3 rfl) ?_
                      refine va_get (v := .int (nI k)) hx hb hts hi_5 hown hK hP 0 rfl rfl 1 (by decide) f_36 (fun _ h => h) rfl dX5_addCode_125 ?_
                      refine z_icmp_ge (tgt := 161) hx hb dX5_addCode_128 (by decide) (by omega) (by omega) (fun c_128 => ?_) (fun c_128 => ?_)
                      · refine lv_iload hx hb dX5_addCode_161 (lv_at hl 1 rfl) ?_
                        refine z_if_eq (tgt := 172) hx hb dX5_addCode_163 (by decide) (by omega) (fun c_163 => ?_) (fun c_163 => ?_)
                        · refine lv_aload_n hx hb dX5_addCode_172 rfl (lv_at hl 3 rfl) ?_
                          refine va_get (v := .ref y1) hx hb hts hi_5 hown hK hP 0 rfl rfl 2 (by decide) f_9 (fun _ h => h) rfl dX5_addCode_173 ?_
                          refine lv_aload_n hx hb dX5_addCode_176 rfl (lv_at hl 3 rfl) ?_
                          refine va_get (v := .int (nI k)) hx hb hts hi_5 hown hK hP 0 rfl rfl 1 (by decide) f_36 (fun _ h => h) rfl dX5_addCode_177 ?_
                          refine lv_iload hx hb dX5_addCode_180 (lv_at hl 2 rfl) ?_
                          refine z_iast hx hb hK hP hD rfl hS 1 0 rfl rfl (by omega) (by decide) dX5_addCode_182 (fun H locs hP hS => ?_)
                          have hP : va_P D vwCl [(y0, .inr (5, [.int (nI 0), .int (nI k), .ref y1, .ref y2, .int (nI n), .ref y3, .int (nI q), .int (nI sg), .int rp, .int lo, .int ea, .ref y4, .ref y5, .int (nI go), .int (nI ak), .int (nI gn), .int (nI gf)])), (y1, .inl (cI, 9, .inl (upd K k (acK x1 x2 x3 x4)))), (y2, .inl (cI, 9, .inl (nA Lm)))] H := hP
                          refine lv_aload_n hx hb dX5_addCode_183 rfl (lv_at hl 3 rfl) ?_
                          refine va_get (v := .ref y2) hx hb hts hi_5 hown hK hP 0 rfl rfl 3 (by decide) f_13 (fun _ h => h) rfl dX5_addCode_184 ?_
                          refine lv_aload_n hx hb dX5_addCode_187 rfl (lv_at hl 3 rfl) ?_
                          refine va_get (v := .int (nI k)) hx hb hts hi_5 hown hK hP 0 rfl rfl 1 (by decide) f_36 (fun _ h => h) rfl dX5_addCode_188 ?_
                          refine lv_iload_n hx hb dX5_addCode_191 rfl (lv_at hl 6 rfl) ?_
                          refine lv_iconst (v := -1) hx hb dX5_addCode_192 ci_m1 ?_
                          refine lv_icmp_ne (tgt := 200) hx hb dX5_addCode_193 (by decide) (fun c_193 => ?_) (fun c_193 => ?_)
                          · refine lv_iload hx hb dX5_addCode_200 (lv_at hl 7 rfl) ?_
                            refine lv_iconst (v := -1) hx hb dX5_addCode_202 ci_m1 ?_
                            refine lv_icmp_ne (tgt := 210) hx hb dX5_addCode_203 (by decide) (fun c_203 => ?_) (fun c_203 => ?_)
                            · refine lv_iconst (v := nI 4) hx hb dX5_addCode_210 ci_4 ?_
                              refine z_iastN hx hb hK hP hD rfl hS 2 0 rfl rfl (by omega) (by decide) dX5_addCode_211 (fun H locs hP hS => ?_)
                              have hP : va_P D vwCl [(y0, .inr (5, [.int (nI 0), .int (nI k), .ref y1, .ref y2, .int (nI n), .ref y3, .int (nI q), .int (nI sg), .int rp, .int lo, .int ea, .ref y4, .ref y5, .int (nI go), .int (nI ak), .int (nI gn), .int (nI gf)])), (y1, .inl (cI, 9, .inl (upd K k (acK x1 x2 x3 x4)))), (y2, .inl (cI, 9, .inl (nA (updN Lm k 4))))] H := hP
                              refine lv_aload_n hx hb dX5_addCode_212 rfl (lv_at hl 3 rfl) ?_
                              refine lv_dup hx hb dX5_addCode_213 rfl ?_
                              refine va_get (v := .int (nI k)) hx hb hts hi_5 hown hK hP 0 rfl rfl 1 (by decide) f_36 (fun _ h => h) rfl dX5_addCode_214 ?_
                              refine lv_iconst (v := nI 1) hx hb dX5_addCode_217 ci_1 ?_
                              refine z_iadd hx hb dX5_addCode_218 ?_
                              refine z_put hx hb hts hi_5 tyX5 tyX5_ok nmX5 hown hK hP hD rfl hS 0 rfl rfl 1 (by decide) f_36 (fun _ h => h) rfl (by decide +kernel) (Nat.le_of_ble_eq_true rfl) dX5_addCode_219 (fun H locs hP hS => ?_)
                              have hP : va_P D vwCl [(y0, .inr (5, [.int (nI 0), .int (nI (k + 1)), .ref y1, .ref y2, .int (nI n), .ref y3, .int (nI q), .int (nI sg), .int rp, .int lo, .int ea, .ref y4, .ref y5, .int (nI go), .int (nI ak), .int (nI gn), .int (nI gf)])), (y1, .inl (cI, 9, .inl (upd K k (acK x1 x2 x3 x4)))), (y2, .inl (cI, 9, .inl (nA (updN Lm k 4))))] H := hP
                              refine lv_aload_n hx hb dX5_addCode_222 rfl (lv_at hl 3 rfl) ?_
                              refine va_get (v := .int (nI (k + 1))) hx hb hts hi_5 hown hK hP 0 rfl rfl 1 (by decide) f_36 (fun _ h => h) rfl dX5_addCode_223 ?_
                              refine lv_iconst (v := nI 1) hx hb dX5_addCode_226 ci_1 ?_
                              refine z_isub hx hb dX5_addCode_227 (by omega) ?_
                              exact mu_iret hA hQ hx hb hr hlocks (0, k + 1, nI ((k + 1) - 1), upd K k (acK x1 x2 x3 x4), updN Lm k 4) hP hS ⟨rfl, Or.inl ⟨hnb, ad_r hfl (by omega) (by omega), rfl, rfl, rfl, rfl, (by first | (rw [clen, if_neg c_203]; done) | (rw [clen, if_pos c_203, if_neg c_193]; done) | (rw [clen, if_pos (ad_4 hnb c_193), if_pos c_193]; done))⟩⟩ dX5_addCode_228
                            · refine lv_iconst (v := nI 3) hx hb dX5_addCode_206 ci_3 ?_
                              refine lv_goto (tgt := 211) hx hb dX5_addCode_207 (by decide) ?_
                              refine z_iastN hx hb hK hP hD rfl hS 2 0 rfl rfl (by omega) (by decide) dX5_addCode_211 (fun H locs hP hS => ?_)
                              have hP : va_P D vwCl [(y0, .inr (5, [.int (nI 0), .int (nI k), .ref y1, .ref y2, .int (nI n), .ref y3, .int (nI q), .int (nI sg), .int rp, .int lo, .int ea, .ref y4, .ref y5, .int (nI go), .int (nI ak), .int (nI gn), .int (nI gf)])), (y1, .inl (cI, 9, .inl (upd K k (acK x1 x2 x3 x4)))), (y2, .inl (cI, 9, .inl (nA (updN Lm k 3))))] H := hP
                              refine lv_aload_n hx hb dX5_addCode_212 rfl (lv_at hl 3 rfl) ?_
                              refine lv_dup hx hb dX5_addCode_213 rfl ?_
                              refine va_get (v := .int (nI k)) hx hb hts hi_5 hown hK hP 0 rfl rfl 1 (by decide) f_36 (fun _ h => h) rfl dX5_addCode_214 ?_
                              refine lv_iconst (v := nI 1) hx hb dX5_addCode_217 ci_1 ?_
                              refine z_iadd hx hb dX5_addCode_218 ?_
                              refine z_put hx hb hts hi_5 tyX5 tyX5_ok nmX5 hown hK hP hD rfl hS 0 rfl rfl 1 (by decide) f_36 (fun _ h => h) rfl (by decide +kernel) (Nat.le_of_ble_eq_true rfl) dX5_addCode_219 (fun H locs hP hS => ?_)
                              have hP : va_P D vwCl [(y0, .inr (5, [.int (nI 0), .int (nI (k + 1)), .ref y1, .ref y2, .int (nI n), .ref y3, .int (nI q), .int (nI sg), .int rp, .int lo, .int ea, .ref y4, .ref y5, .int (nI go), .int (nI ak), .int (nI gn), .int (nI gf)])), (y1, .inl (cI, 9, .inl (upd K k (acK x1 x2 x3 x4)))), (y2, .inl (cI, 9, .inl (nA (updN Lm k 3))))] H := hP
                              refine lv_aload_n hx hb dX5_addCode_222 rfl (lv_at hl 3 rfl) ?_
                              refine va_get (v := .int (nI (k + 1))) hx hb hts hi_5 hown hK hP 0 rfl rfl 1 (by decide) f_36 (fun _ h => h) rfl dX5_addCode_223 ?_
                              refine lv_iconst (v := nI 1) hx hb dX5_addCode_226 ci_1 ?_
                              refine z_isub hx hb dX5_addCode_227 (by omega) ?_
                              exact mu_iret hA hQ hx hb hr hlocks (0, k + 1, nI ((k + 1) - 1), upd K k (acK x1 x2 x3 x4), updN Lm k 3) hP hS ⟨rfl, Or.inl ⟨hnb, ad_r hfl (by omega) (by omega), rfl, rfl, rfl, rfl, (by first | (rw [clen, if_neg c_203]; done) | (rw [clen, if_pos c_203, if_neg c_193]; done) | (rw [clen, if_pos (ad_4 hnb c_193), if_pos c_193]; done))⟩⟩ dX5_addCode_228
                          · refine lv_iconst (v := nI 2) hx hb dX5_addCode_196 ci_2 ?_
                            refine lv_goto (tgt := 211) hx hb dX5_addCode_197 (by decide) ?_
                            refine z_iastN hx hb hK hP hD rfl hS 2 0 rfl rfl (by omega) (by decide) dX5_addCode_211 (fun H locs hP hS => ?_)
                            have hP : va_P D vwCl [(y0, .inr (5, [.int (nI 0), .int (nI k), .ref y1, .ref y2, .int (nI n), .ref y3, .int (nI q), .int (nI sg), .int rp, .int lo, .int ea, .ref y4, .ref y5, .int (nI go), .int (nI ak), .int (nI gn), .int (nI gf)])), (y1, .inl (cI, 9, .inl (upd K k (acK x1 x2 x3 x4)))), (y2, .inl (cI, 9, .inl (nA (updN Lm k 2))))] H := hP
                            refine lv_aload_n hx hb dX5_addCode_212 rfl (lv_at hl 3 rfl) ?_
                            refine lv_dup hx hb dX5_addCode_213 rfl ?_
                            refine va_get (v := .int (nI k)) hx hb hts hi_5 hown hK hP 0 rfl rfl 1 (by decide) f_36 (fun _ h => h) rfl dX5_addCode_214 ?_
                            refine lv_iconst (v := nI 1) hx hb dX5_addCode_217 ci_1 ?_
                            refine z_iadd hx hb dX5_addCode_218 ?_
                            refine z_put hx hb hts hi_5 tyX5 tyX5_ok nmX5 hown hK hP hD rfl hS 0 rfl rfl 1 (by decide) f_36 (fun _ h => h) rfl (by decide +kernel) (Nat.le_of_ble_eq_true rfl) dX5_addCode_219 (fun H locs hP hS => ?_)
                            have hP : va_P D vwCl [(y0, .inr (5, [.int (nI 0), .int (nI (k + 1)), .ref y1, .ref y2, .int (nI n), .ref y3, .int (nI q), .int (nI sg), .int rp, .int lo, .int ea, .ref y4, .ref y5, .int (nI go), .int (nI ak), .int (nI gn), .int (nI gf)])), (y1, .inl (cI, 9, .inl (upd K k (acK x1 x2 x3 x4)))), (y2, .inl (cI, 9, .inl (nA (updN Lm k 2))))] H := hP
                            refine lv_aload_n hx hb dX5_addCode_222 rfl (lv_at hl 3 rfl) ?_
                            refine va_get (v := .int (nI (k + 1))) hx hb hts hi_5 hown hK hP 0 rfl rfl 1 (by decide) f_36 (fun _ h => h) rfl dX5_addCode_223 ?_
                            refine lv_iconst (v := nI 1) hx hb dX5_addCode_226 ci_1 ?_
                            refine z_isub hx hb dX5_addCode_227 (by omega) ?_
                            exact mu_iret hA hQ hx hb hr hlocks (0, k + 1, nI ((k + 1) - 1), upd K k (acK x1 x2 x3 x4), updN Lm k 2) hP hS ⟨rfl, Or.inl ⟨hnb, ad_r hfl (by omega) (by omega), rfl, rfl, rfl, rfl, (by first | (rw [clen, if_neg c_203]; done) | (rw [clen, if_pos c_203, if_neg c_193]; done) | (rw [clen, if_pos (ad_4 hnb c_193), if_pos c_193]; done))⟩⟩ dX5_addCode_228
                        · refine lv_aload_n hx hb dX5_addCode_166 rfl (lv_at hl 3 rfl) ?_
                          refine lv_iconst (v := nI 2) hx hb dX5_addCode_167 ci_2 ?_
                          refine z_muV (As := [.int (nI 2)]) (rest := []) ⟨hx, hb, hml, hown, hts⟩ (c_X5_fail l D cI y0 y1 y2 y3 y4 y5 0 k n q sg rp lo ea go ak gn gf 2) (cwV 1 hts gX5_addCode_X5_fail rfl rfl rfl hd_X5_fail ⟨Nat.le_of_ble_eq_true rfl, Nat.le_of_ble_eq_true rfl⟩) ⟨hK, hE⟩ hP hD rfl hS [0] (by decide) rfl (fun _ => rfl) (va_recv hK hP (ci := 5) (q0 := 0) rfl rfl) rfl hl.1 rfl (Nat.le_of_ble_eq_true rfl) dX5_addCode_168 (Nat.zero_le _) (Nat.zero_le _) (fun v9 u9 H locs hp hP hS => ?_)
                          obtain rfl := hp
                          have hP : va_P D vwCl [(y0, .inr (5, [.int (nI 2), .int (nI k), .ref y1, .ref y2, .int (nI n), .ref y3, .int (nI q), .int (nI sg), .int rp, .int lo, .int ea, .ref y4, .ref y5, .int (nI go), .int (nI ak), .int (nI gn), .int (nI gf)])), (y1, .inl (cI, 9, .inl K)), (y2, .inl (cI, 9, .inl (nA Lm)))] H := hP
                          refine W.eq (g2 := F0 mi 171 ls [.int (nI 0)]) rfl ?_
                          exact mu_iret hA hQ hx hb hr hlocks (2, k, nI 0, K, Lm) hP hS ⟨rfl, Or.inr (Or.inr ⟨hnb, ad_q hfl (by omega) (by omega), rfl, rfl, rfl, rfl, rfl⟩)⟩ dX5_addCode_171
                      · refine lv_iload hx hb dX5_addCode_131 (lv_at hl 1 rfl) ?_
                        refine z_if_ne (tgt := 148) hx hb dX5_addCode_133 (by decide) (by omega) (fun c_133 => ?_) (fun c_133 => ?_)
                        · refine lv_iconst (v := nI 1) hx hb dX5_addCode_148 ci_1 ?_
                          refine lv_goto (tgt := 153) hx hb dX5_addCode_149 (by decide) ?_
                          refine lv_istore (lv' := [(6, .int (nI 1)), (7, .int (nI i)), (5, .int (acK x1 x2 x3 x4)), (0, .ref y0), (1, .int x1), (2, .int x2), (3, .int x3), (4, .int x4)]) hx hb dX5_addCode_153 hl (by decide) rfl (fun ls hl => ?_)
                          refine lv_iinc (v := nI (i + 1)) (lv' := [(7, .int (nI (i + 1))), (6, .int (nI 1)), (5, .int (acK x1 x2 x3 x4)), (0, .ref y0), (1, .int x1), (2, .int x2), (3, .int x3), (4, .int x4)]) hx hb dX5_addCode_155 hl (k := 1) rfl (z_inc1 _) (by decide) rfl (fun ls hl => ?_)
                          refine lv_goto (tgt := 122) hx hb dX5_addCode_158 (by decide) ?_
                          exact ih_122 (i + 1) 1 (by omega) (by decide) (by first | exact Or.inl ⟨rfl, ad_p hfl c_133⟩ | exact Or.inl ⟨rfl, Or.inr ⟨i, Nat.lt_succ_self i, c_145⟩⟩ | exact Or.inr ⟨rfl, ad_n hfl c_133 c_145⟩) (by omega) H locs ls hP hS (lv_sub hl [0, 1, 2, 3, 4, 5, 6, 7] rfl)
                        · refine lv_aload_n hx hb dX5_addCode_136 rfl (lv_at hl 3 rfl) ?_
                          refine va_get (v := .ref y1) hx hb hts hi_5 hown hK hP 0 rfl rfl 2 (by decide) f_9 (fun _ h => h) rfl dX5_addCode_137 ?_
                          refine lv_iload hx hb dX5_addCode_140 (lv_at hl 0 rfl) ?_
                          refine z_iald hx hb hK hP 1 0 rfl rfl (by omega) (by decide) dX5_addCode_142 ?_
                          refine lv_iload hx hb dX5_addCode_143 (lv_at hl 2 rfl) ?_
                          refine lv_icmp_ne (tgt := 152) hx hb dX5_addCode_145 (by decide) (fun c_145 => ?_) (fun c_145 => ?_)
                          · refine lv_iconst (v := nI 0) hx hb dX5_addCode_152 ci_0 ?_
                            refine lv_istore (lv' := [(6, .int (nI 0)), (7, .int (nI i)), (5, .int (acK x1 x2 x3 x4)), (0, .ref y0), (1, .int x1), (2, .int x2), (3, .int x3), (4, .int x4)]) hx hb dX5_addCode_153 hl (by decide) rfl (fun ls hl => ?_)
                            refine lv_iinc (v := nI (i + 1)) (lv' := [(7, .int (nI (i + 1))), (6, .int (nI 0)), (5, .int (acK x1 x2 x3 x4)), (0, .ref y0), (1, .int x1), (2, .int x2), (3, .int x3), (4, .int x4)]) hx hb dX5_addCode_155 hl (k := 1) rfl (z_inc1 _) (by decide) rfl (fun ls hl => ?_)
                            refine lv_goto (tgt := 122) hx hb dX5_addCode_158 (by decide) ?_
                            exact ih_122 (i + 1) 0 (by omega) (by decide) (by first | exact Or.inl ⟨rfl, ad_p hfl c_133⟩ | exact Or.inl ⟨rfl, Or.inr ⟨i, Nat.lt_succ_self i, c_145⟩⟩ | exact Or.inr ⟨rfl, ad_n hfl c_133 c_145⟩) (by omega) H locs ls hP hS (lv_sub hl [0, 1, 2, 3, 4, 5, 6, 7] rfl)
                          · refine lv_iconst (v := nI 1) hx hb dX5_addCode_148 ci_1 ?_
                            refine lv_goto (tgt := 153) hx hb dX5_addCode_149 (by decide) ?_
                            refine lv_istore (lv' := [(6, .int (nI 1)), (7, .int (nI i)), (5, .int (acK x1 x2 x3 x4)), (0, .ref y0), (1, .int x1), (2, .int x2), (3, .int x3), (4, .int x4)]) hx hb dX5_addCode_153 hl (by decide) rfl (fun ls hl => ?_)
                            refine lv_iinc (v := nI (i + 1)) (lv' := [(7, .int (nI (i + 1))), (6, .int (nI 1)), (5, .int (acK x1 x2 x3 x4)), (0, .ref y0), (1, .int x1), (2, .int x2), (3, .int x3), (4, .int x4)]) hx hb dX5_addCode_155 hl (k := 1) rfl (z_inc1 _) (by decide) rfl (fun ls hl => ?_)
                            refine lv_goto (tgt := 122) hx hb dX5_addCode_158 (by decide) ?_
                            exact ih_122 (i + 1) 1 (by omega) (by decide) (by first | exact Or.inl ⟨rfl, ad_p hfl c_133⟩ | exact Or.inl ⟨rfl, Or.inr ⟨i, Nat.lt_succ_self i, c_145⟩⟩ | exact Or.inr ⟨rfl, ad_n hfl c_133 c_145⟩) (by omega) H locs ls hP hS (lv_sub hl [0, 1, 2, 3, 4, 5, 6, 7] rfl)
                  exact lp_122 ((k - 0) + 1) 0 0 (Nat.zero_le _) (by decide) (by first | exact Or.inl ⟨rfl, Or.inl c_109⟩ | exact Or.inr ⟨rfl, fun z => z.elim c_109 (fun ⟨c, hc, _⟩ => absurd hc (Nat.not_lt_zero _))⟩) (Nat.lt_succ_self _) H locs ls hP hS hl
                · refine lv_iconst (v := nI 1) hx hb dX5_addCode_112 ci_1 ?_
                  refine lv_goto (tgt := 117) hx hb dX5_addCode_113 (by decide) ?_
                  refine lv_istore (lv' := [(6, .int (nI 1)), (5, .int (acK x1 x2 x3 x4)), (0, .ref y0), (1, .int x1), (2, .int x2), (3, .int x3), (4, .int x4)]) hx hb dX5_addCode_117 hl (by decide) rfl (fun ls hl => ?_)
                  refine lv_iconst (v := nI 0) hx hb dX5_addCode_119 ci_0 ?_
                  refine lv_istore (lv' := [(7, .int (nI 0)), (6, .int (nI 1)), (5, .int (acK x1 x2 x3 x4)), (0, .ref y0), (1, .int x1), (2, .int x2), (3, .int x3), (4, .int x4)]) hx hb dX5_addCode_120 hl (by decide) rfl (fun ls hl => ?_)
                  have lp_122 : ∀ (Nf : Nat) (i : Nat) (fl : Nat) (hi : i ≤ k) (hf1 : fl ≤ 1) (hfl : (fl = 1 ∧ acDm K k (acK x1 x2 x3 x4) i) ∨ (fl = 0 ∧ ¬ acDm K k (acK x1 x2 x3 x4) i)) (hN : k - i < Nf) (H : Heap) (locs : List Loc) (ls : Array Slot), va_P D vwCl [(y0, .inr (5, [.int (nI 0), .int (nI k), .ref y1, .ref y2, .int (nI n), .ref y3, .int (nI q), .int (nI sg), .int rp, .int lo, .int ea, .ref y4, .ref y5, .int (nI go), .int (nI ak), .int (nI gn), .int (nI gf)])), (y1, .inl (cI, 9, .inl K)), (y2, .inl (cI, 9, .inl (nA Lm)))] H → va_S A sv.heap H locs → lv_has ls 8 [(7, .int (nI i)), (6, .int (nI fl)), (5, .int (acK x1 x2 x3 x4)), (0, .ref y0), (1, .int x1), (2, .int x2), (3, .int x3), (4, .int x4)] → W pg l ev rm_X5_addCode sv mi ag bl mt cd H locs 0 0 Q (F0 mi 122 ls []) := by
                    intro Nf
                    induction Nf with
                    | zero =>
                      intro i fl hi hf1 hfl hN
                      exact absurd hN (Nat.not_lt_zero _)
                    | succ Nf ih_122 =>
                      intro i fl hi hf1 hfl hN H locs ls hP hS hl
                      refine lv_iload hx hb dX5_addCode_122 (lv_at hl 0 rfl) ?_
                      refine lv_aload_n hx hb dX5_addCode_124 rfl (lv_at hl 3 rfl) ?_
                      refine va_get (v := .int (nI k)) hx hb hts hi_5 hown hK hP 0 rfl rfl 1 (by decide) f_36 (fun _ h => h) rfl dX5_addCode_125 ?_
                      refine z_icmp_ge (tgt := 161) hx hb dX5_addCode_128 (by decide) (by omega) (by omega) (fun c_128 => ?_) (fun c_128 => ?_)
                      · refine lv_iload hx hb dX5_addCode_161 (lv_at hl 1 rfl) ?_
                        refine z_if_eq (tgt := 172) hx hb dX5_addCode_163 (by decide) (by omega) (fun c_163 => ?_) (fun c_163 => ?_)
                        · refine lv_aload_n hx hb dX5_addCode_172 rfl (lv_at hl 3 rfl) ?_
                          refine va_get (v := .ref y1) hx hb hts hi_5 hown hK hP 0 rfl rfl 2 (by decide) f_9 (fun _ h => h) rfl dX5_addCode_173 ?_
                          refine lv_aload_n hx hb dX5_addCode_176 rfl (lv_at hl 3 rfl) ?_
                          refine va_get (v := .int (nI k)) hx hb hts hi_5 hown hK hP 0 rfl rfl 1 (by decide) f_36 (fun _ h => h) rfl dX5_addCode_177 ?_
                          refine lv_iload hx hb dX5_addCode_180 (lv_at hl 2 rfl) ?_
                          refine z_iast hx hb hK hP hD rfl hS 1 0 rfl rfl (by omega) (by decide) dX5_addCode_182 (fun H locs hP hS => ?_)
                          have hP : va_P D vwCl [(y0, .inr (5, [.int (nI 0), .int (nI k), .ref y1, .ref y2, .int (nI n), .ref y3, .int (nI q), .int (nI sg), .int rp, .int lo, .int ea, .ref y4, .ref y5, .int (nI go), .int (nI ak), .int (nI gn), .int (nI gf)])), (y1, .inl (cI, 9, .inl (upd K k (acK x1 x2 x3 x4)))), (y2, .inl (cI, 9, .inl (nA Lm)))] H := hP
                          refine lv_aload_n hx hb dX5_addCode_183 rfl (lv_at hl 3 rfl) ?_
                          refine va_get (v := .ref y2) hx hb hts hi_5 hown hK hP 0 rfl rfl 3 (by decide) f_13 (fun _ h => h) rfl dX5_addCode_184 ?_
                          refine lv_aload_n hx hb dX5_addCode_187 rfl (lv_at hl 3 rfl) ?_
                          refine va_get (v := .int (nI k)) hx hb hts hi_5 hown hK hP 0 rfl rfl 1 (by decide) f_36 (fun _ h => h) rfl dX5_addCode_188 ?_
                          refine lv_iload_n hx hb dX5_addCode_191 rfl (lv_at hl 6 rfl) ?_
                          refine lv_iconst (v := -1) hx hb dX5_addCode_192 ci_m1 ?_
                          refine lv_icmp_ne (tgt := 200) hx hb dX5_addCode_193 (by decide) (fun c_193 => ?_) (fun c_193 => ?_)
                          · refine lv_iload hx hb dX5_addCode_200 (lv_at hl 7 rfl) ?_
                            refine lv_iconst (v := -1) hx hb dX5_addCode_202 ci_m1 ?_
                            refine lv_icmp_ne (tgt := 210) hx hb dX5_addCode_203 (by decide) (fun c_203 => ?_) (fun c_203 => ?_)
                            · refine lv_iconst (v := nI 4) hx hb dX5_addCode_210 ci_4 ?_
                              refine z_iastN hx hb hK hP hD rfl hS 2 0 rfl rfl (by omega) (by decide) dX5_addCode_211 (fun H locs hP hS => ?_)
                              have hP : va_P D vwCl [(y0, .inr (5, [.int (nI 0), .int (nI k), .ref y1, .ref y2, .int (nI n), .ref y3, .int (nI q), .int (nI sg), .int rp, .int lo, .int ea, .ref y4, .ref y5, .int (nI go), .int (nI ak), .int (nI gn), .int (nI gf)])), (y1, .inl (cI, 9, .inl (upd K k (acK x1 x2 x3 x4)))), (y2, .inl (cI, 9, .inl (nA (updN Lm k 4))))] H := hP
                              refine lv_aload_n hx hb dX5_addCode_212 rfl (lv_at hl 3 rfl) ?_
                              refine lv_dup hx hb dX5_addCode_213 rfl ?_
                              refine va_get (v := .int (nI k)) hx hb hts hi_5 hown hK hP 0 rfl rfl 1 (by decide) f_36 (fun _ h => h) rfl dX5_addCode_214 ?_
                              refine lv_iconst (v := nI 1) hx hb dX5_addCode_217 ci_1 ?_
                              refine z_iadd hx hb dX5_addCode_218 ?_
                              refine z_put hx hb hts hi_5 tyX5 tyX5_ok nmX5 hown hK hP hD rfl hS 0 rfl rfl 1 (by decide) f_36 (fun _ h => h) rfl (by decide +kernel) (Nat.le_of_ble_eq_true rfl) dX5_addCode_219 (fun H locs hP hS => ?_)
                              have hP : va_P D vwCl [(y0, .inr (5, [.int (nI 0), .int (nI (k + 1)), .ref y1, .ref y2, .int (nI n), .ref y3, .int (nI q), .int (nI sg), .int rp, .int lo, .int ea, .ref y4, .ref y5, .int (nI go), .int (nI ak), .int (nI gn), .int (nI gf)])), (y1, .inl (cI, 9, .inl (upd K k (acK x1 x2 x3 x4)))), (y2, .inl (cI, 9, .inl (nA (updN Lm k 4))))] H := hP
                              refine lv_aload_n hx hb dX5_addCode_222 rfl (lv_at hl 3 rfl) ?_
                              refine va_get (v := .int (nI (k + 1))) hx hb hts hi_5 hown hK hP 0 rfl rfl 1 (by decide) f_36 (fun _ h => h) rfl dX5_addCode_223 ?_
                              refine lv_iconst (v := nI 1) hx hb dX5_addCode_226 ci_1 ?_
                              refine z_isub hx hb dX5_addCode_227 (by omega) ?_
                              exact mu_iret hA hQ hx hb hr hlocks (0, k + 1, nI ((k + 1) - 1), upd K k (acK x1 x2 x3 x4), updN Lm k 4) hP hS ⟨rfl, Or.inl ⟨hnb, ad_r hfl (by omega) (by omega), rfl, rfl, rfl, rfl, (by first | (rw [clen, if_neg c_203]; done) | (rw [clen, if_pos c_203, if_neg c_193]; done) | (rw [clen, if_pos (ad_4 hnb c_193), if_pos c_193]; done))⟩⟩ dX5_addCode_228
                            · refine lv_iconst (v := nI 3) hx hb dX5_addCode_206 ci_3 ?_
                              refine lv_goto (tgt := 211) hx hb dX5_addCode_207 (by decide) ?_
                              refine z_iastN hx hb hK hP hD rfl hS 2 0 rfl rfl (by omega) (by decide) dX5_addCode_211 (fun H locs hP hS => ?_)
                              have hP : va_P D vwCl [(y0, .inr (5, [.int (nI 0), .int (nI k), .ref y1, .ref y2, .int (nI n), .ref y3, .int (nI q), .int (nI sg), .int rp, .int lo, .int ea, .ref y4, .ref y5, .int (nI go), .int (nI ak), .int (nI gn), .int (nI gf)])), (y1, .inl (cI, 9, .inl (upd K k (acK x1 x2 x3 x4)))), (y2, .inl (cI, 9, .inl (nA (updN Lm k 3))))] H := hP
                              refine lv_aload_n hx hb dX5_addCode_212 rfl (lv_at hl 3 rfl) ?_
                              refine lv_dup hx hb dX5_addCode_213 rfl ?_
                              refine va_get (v := .int (nI k)) hx hb hts hi_5 hown hK hP 0 rfl rfl 1 (by decide) f_36 (fun _ h => h) rfl dX5_addCode_214 ?_
                              refine lv_iconst (v := nI 1) hx hb dX5_addCode_217 ci_1 ?_
                              refine z_iadd hx hb dX5_addCode_218 ?_
                              refine z_put hx hb hts hi_5 tyX5 tyX5_ok nmX5 hown hK hP hD rfl hS 0 rfl rfl 1 (by decide) f_36 (fun _ h => h) rfl (by decide +kernel) (Nat.le_of_ble_eq_true rfl) dX5_addCode_219 (fun H locs hP hS => ?_)
                              have hP : va_P D vwCl [(y0, .inr (5, [.int (nI 0), .int (nI (k + 1)), .ref y1, .ref y2, .int (nI n), .ref y3, .int (nI q), .int (nI sg), .int rp, .int lo, .int ea, .ref y4, .ref y5, .int (nI go), .int (nI ak), .int (nI gn), .int (nI gf)])), (y1, .inl (cI, 9, .inl (upd K k (acK x1 x2 x3 x4)))), (y2, .inl (cI, 9, .inl (nA (updN Lm k 3))))] H := hP
                              refine lv_aload_n hx hb dX5_addCode_222 rfl (lv_at hl 3 rfl) ?_
                              refine va_get (v := .int (nI (k + 1))) hx hb hts hi_5 hown hK hP 0 rfl rfl 1 (by decide) f_36 (fun _ h => h) rfl dX5_addCode_223 ?_
                              refine lv_iconst (v := nI 1) hx hb dX5_addCode_226 ci_1 ?_
                              refine z_isub hx hb dX5_addCode_227 (by omega) ?_
                              exact mu_iret hA hQ hx hb hr hlocks (0, k + 1, nI ((k + 1) - 1), upd K k (acK x1 x2 x3 x4), updN Lm k 3) hP hS ⟨rfl, Or.inl ⟨hnb, ad_r hfl (by omega) (by omega), rfl, rfl, rfl, rfl, (by first | (rw [clen, if_neg c_203]; done) | (rw [clen, if_pos c_203, if_neg c_193]; done) | (rw [clen, if_pos (ad_4 hnb c_193), if_pos c_193]; done))⟩⟩ dX5_addCode_228
                          · refine lv_iconst (v := nI 2) hx hb dX5_addCode_196 ci_2 ?_
                            refine lv_goto (tgt := 211) hx hb dX5_addCode_197 (by decide) ?_
                            refine z_iastN hx hb hK hP hD rfl hS 2 0 rfl rfl (by omega) (by decide) dX5_addCode_211 (fun H locs hP hS => ?_)
                            have hP : va_P D vwCl [(y0, .inr (5, [.int (nI 0), .int (nI k), .ref y1, .ref y2, .int (nI n), .ref y3, .int (nI q), .int (nI sg), .int rp, .int lo, .int ea, .ref y4, .ref y5, .int (nI go), .int (nI ak), .int (nI gn), .int (nI gf)])), (y1, .inl (cI, 9, .inl (upd K k (acK x1 x2 x3 x4)))), (y2, .inl (cI, 9, .inl (nA (updN Lm k 2))))] H := hP
                            refine lv_aload_n hx hb dX5_addCode_212 rfl (lv_at hl 3 rfl) ?_
                            refine lv_dup hx hb dX5_addCode_213 rfl ?_
                            refine va_get (v := .int (nI k)) hx hb hts hi_5 hown hK hP 0 rfl rfl 1 (by decide) f_36 (fun _ h => h) rfl dX5_addCode_214 ?_
                            refine lv_iconst (v := nI 1) hx hb dX5_addCode_217 ci_1 ?_
                            refine z_iadd hx hb dX5_addCode_218 ?_
                            refine z_put hx hb hts hi_5 tyX5 tyX5_ok nmX5 hown hK hP hD rfl hS 0 rfl rfl 1 (by decide) f_36 (fun _ h => h) rfl (by decide +kernel) (Nat.le_of_ble_eq_true rfl) dX5_addCode_219 (fun H locs hP hS => ?_)
                            have hP : va_P D vwCl [(y0, .inr (5, [.int (nI 0), .int (nI (k + 1)), .ref y1, .ref y2, .int (nI n), .ref y3, .int (nI q), .int (nI sg), .int rp, .int lo, .int ea, .ref y4, .ref y5, .int (nI go), .int (nI ak), .int (nI gn), .int (nI gf)])), (y1, .inl (cI, 9, .inl (upd K k (acK x1 x2 x3 x4)))), (y2, .inl (cI, 9, .inl (nA (updN Lm k 2))))] H := hP
                            refine lv_aload_n hx hb dX5_addCode_222 rfl (lv_at hl 3 rfl) ?_
                            refine va_get (v := .int (nI (k + 1))) hx hb hts hi_5 hown hK hP 0 rfl rfl 1 (by decide) f_36 (fun _ h => h) rfl dX5_addCode_223 ?_
                            refine lv_iconst (v := nI 1) hx hb dX5_addCode_226 ci_1 ?_
                            refine z_isub hx hb dX5_addCode_227 (by omega) ?_
                            exact mu_iret hA hQ hx hb hr hlocks (0, k + 1, nI ((k + 1) - 1), upd K k (acK x1 x2 x3 x4), updN Lm k 2) hP hS ⟨rfl, Or.inl ⟨hnb, ad_r hfl (by omega) (by omega), rfl, rfl, rfl, rfl, (by first | (rw [clen, if_neg c_203]; done) | (rw [clen, if_pos c_203, if_neg c_193]; done) | (rw [clen, if_pos (ad_4 hnb c_193), if_pos c_193]; done))⟩⟩ dX5_addCode_228
                        · refine lv_aload_n hx hb dX5_addCode_166 rfl (lv_at hl 3 rfl) ?_
                          refine lv_iconst (v := nI 2) hx hb dX5_addCode_167 ci_2 ?_
                          refine z_muV (As := [.int (nI 2)]) (rest := []) ⟨hx, hb, hml, hown, hts⟩ (c_X5_fail l D cI y0 y1 y2 y3 y4 y5 0 k n q sg rp lo ea go ak gn gf 2) (cwV 1 hts gX5_addCode_X5_fail rfl rfl rfl hd_X5_fail ⟨Nat.le_of_ble_eq_true rfl, Nat.le_of_ble_eq_true rfl⟩) ⟨hK, hE⟩ hP hD rfl hS [0] (by decide) rfl (fun _ => rfl) (va_recv hK hP (ci := 5) (q0 := 0) rfl rfl) rfl hl.1 rfl (Nat.le_of_ble_eq_true rfl) dX5_addCode_168 (Nat.zero_le _) (Nat.zero_le _) (fun v9 u9 H locs hp hP hS => ?_)
                          obtain rfl := hp
                          have hP : va_P D vwCl [(y0, .inr (5, [.int (nI 2), .int (nI k), .ref y1, .ref y2, .int (nI n), .ref y3, .int (nI q), .int (nI sg), .int rp, .int lo, .int ea, .ref y4, .ref y5, .int (nI go), .int (nI ak), .int (nI gn), .int (nI gf)])), (y1, .inl (cI, 9, .inl K)), (y2, .inl (cI, 9, .inl (nA Lm)))] H := hP
                          refine W.eq (g2 := F0 mi 171 ls [.int (nI 0)]) rfl ?_
                          exact mu_iret hA hQ hx hb hr hlocks (2, k, nI 0, K, Lm) hP hS ⟨rfl, Or.inr (Or.inr ⟨hnb, ad_q hfl (by omega) (by omega), rfl, rfl, rfl, rfl, rfl⟩)⟩ dX5_addCode_171
                      · refine lv_iload hx hb dX5_addCode_131 (lv_at hl 1 rfl) ?_
                        refine z_if_ne (tgt := 148) hx hb dX5_addCode_133 (by decide) (by omega) (fun c_133 => ?_) (fun c_133 => ?_)
                        · refine lv_iconst (v := nI 1) hx hb dX5_addCode_148 ci_1 ?_
                          refine lv_goto (tgt := 153) hx hb dX5_addCode_149 (by decide) ?_
                          refine lv_istore (lv' := [(6, .int (nI 1)), (7, .int (nI i)), (5, .int (acK x1 x2 x3 x4)), (0, .ref y0), (1, .int x1), (2, .int x2), (3, .int x3), (4, .int x4)]) hx hb dX5_addCode_153 hl (by decide) rfl (fun ls hl => ?_)
                          refine lv_iinc (v := nI (i + 1)) (lv' := [(7, .int (nI (i + 1))), (6, .int (nI 1)), (5, .int (acK x1 x2 x3 x4)), (0, .ref y0), (1, .int x1), (2, .int x2), (3, .int x3), (4, .int x4)]) hx hb dX5_addCode_155 hl (k := 1) rfl (z_inc1 _) (by decide) rfl (fun ls hl => ?_)
                          refine lv_goto (tgt := 122) hx hb dX5_addCode_158 (by decide) ?_
                          exact ih_122 (i + 1) 1 (by omega) (by decide) (by first | exact Or.inl ⟨rfl, ad_p hfl c_133⟩ | exact Or.inl ⟨rfl, Or.inr ⟨i, Nat.lt_succ_self i, c_145⟩⟩ | exact Or.inr ⟨rfl, ad_n hfl c_133 c_145⟩) (by omega) H locs ls hP hS (lv_sub hl [0, 1, 2, 3, 4, 5, 6, 7] rfl)
                        · refine lv_aload_n hx hb dX5_addCode_136 rfl (lv_at hl 3 rfl) ?_
                          refine va_get (v := .ref y1) hx hb hts hi_5 hown hK hP 0 rfl rfl 2 (by decide) f_9 (fun _ h => h) rfl dX5_addCode_137 ?_
                          refine lv_iload hx hb dX5_addCode_140 (lv_at hl 0 rfl) ?_
                          refine z_iald hx hb hK hP 1 0 rfl rfl (by omega) (by decide) dX5_addCode_142 ?_
                          refine lv_iload hx hb dX5_addCode_143 (lv_at hl 2 rfl) ?_
                          refine lv_icmp_ne (tgt := 152) hx hb dX5_addCode_145 (by decide) (fun c_145 => ?_) (fun c_145 => ?_)
                          · refine lv_iconst (v := nI 0) hx hb dX5_addCode_152 ci_0 ?_
                            refine lv_istore (lv' := [(6, .int (nI 0)), (7, .int (nI i)), (5, .int (acK x1 x2 x3 x4)), (0, .ref y0), (1, .int x1), (2, .int x2), (3, .int x3), (4, .int x4)]) hx hb dX5_addCode_153 hl (by decide) rfl (fun ls hl => ?_)
                            refine lv_iinc (v := nI (i + 1)) (lv' := [(7, .int (nI (i + 1))), (6, .int (nI 0)), (5, .int (acK x1 x2 x3 x4)), (0, .ref y0), (1, .int x1), (2, .int x2), (3, .int x3), (4, .int x4)]) hx hb dX5_addCode_155 hl (k := 1) rfl (z_inc1 _) (by decide) rfl (fun ls hl => ?_)
                            refine lv_goto (tgt := 122) hx hb dX5_addCode_158 (by decide) ?_
                            exact ih_122 (i + 1) 0 (by omega) (by decide) (by first | exact Or.inl ⟨rfl, ad_p hfl c_133⟩ | exact Or.inl ⟨rfl, Or.inr ⟨i, Nat.lt_succ_self i, c_145⟩⟩ | exact Or.inr ⟨rfl, ad_n hfl c_133 c_145⟩) (by omega) H locs ls hP hS (lv_sub hl [0, 1, 2, 3, 4, 5, 6, 7] rfl)
                          · refine lv_iconst (v := nI 1) hx hb dX5_addCode_148 ci_1 ?_
                            refine lv_goto (tgt := 153) hx hb dX5_addCode_149 (by decide) ?_
                            refine lv_istore (lv' := [(6, .int (nI 1)), (7, .int (nI i)), (5, .int (acK x1 x2 x3 x4)), (0, .ref y0), (1, .int x1), (2, .int x2), (3, .int x3), (4, .int x4)]) hx hb dX5_addCode_153 hl (by decide) rfl (fun ls hl => ?_)
                            refine lv_iinc (v := nI (i + 1)) (lv' := [(7, .int (nI (i + 1))), (6, .int (nI 1)), (5, .int (acK x1 x2 x3 x4)), (0, .ref y0), (1, .int x1), (2, .int x2), (3, .int x3), (4, .int x4)]) hx hb dX5_addCode_155 hl (k := 1) rfl (z_inc1 _) (by decide) rfl (fun ls hl => ?_)
                            refine lv_goto (tgt := 122) hx hb dX5_addCode_158 (by decide) ?_
                            exact ih_122 (i + 1) 1 (by omega) (by decide) (by first | exact Or.inl ⟨rfl, ad_p hfl c_133⟩ | exact Or.inl ⟨rfl, Or.inr ⟨i, Nat.lt_succ_self i, c_145⟩⟩ | exact Or.inr ⟨rfl, ad_n hfl c_133 c_145⟩) (by omega) H locs ls hP hS (lv_sub hl [0, 1, 2, 3, 4, 5, 6, 7] rfl)
                  exact lp_122 ((k - 0) + 1) 0 1 (Nat.zero_le _) (by decide) (by first | exact Or.inl ⟨rfl, Or.inl c_109⟩ | exact Or.inr ⟨rfl, fun z => z.elim c_109 (fun ⟨c, hc, _⟩ => absurd hc (Nat.not_lt_zero _))⟩) (Nat.lt_succ_self _) H locs ls hP hS hl
              · refine z_bipush (n := 11) hx hb rfl (by decide) dX5_addCode_91 ?_
                refine lv_iload hx hb dX5_addCode_93 (lv_at hl 0 rfl) ?_
                refine lv_imul hx hb dX5_addCode_95 ?_
                refine lv_iload hx hb dX5_addCode_96 (lv_at hl 5 rfl) ?_
                refine lv_iadd hx hb dX5_addCode_98 ?_
                refine lv_iconst (v := nI 1) hx hb dX5_addCode_99 ci_1 ?_
                refine lv_iadd hx hb dX5_addCode_100 ?_
                refine lv_istore (lv' := [(5, .int ((((nI 11) * (acN (ac2 x1 x2) x3)) + x4) + (nI 1))), (0, .ref y0), (1, .int x1), (2, .int x2), (3, .int x3), (4, .int x4)]) hx hb dX5_addCode_101 hl (by decide) rfl (fun ls hl => ?_)
                rw [show (((nI 11) * (acN (ac2 x1 x2) x3)) + x4) + (nI 1) = acK x1 x2 x3 x4 from (by unfold acK; conv => { rhs; unfold acN }; first | exact (if_pos c_88).symm | exact (if_neg c_88).symm)] at hl
                refine lv_aload_n hx hb dX5_addCode_103 rfl (lv_at hl 1 rfl) ?_
                refine va_get (v := .int (nI k)) hx hb hts hi_5 hown hK hP 0 rfl rfl 1 (by decide) f_36 (fun _ h => h) rfl dX5_addCode_104 ?_
                refine z_bipush (n := 8) hx hb rfl (by decide) dX5_addCode_107 ?_
                refine z_icmp_ne (tgt := 116) hx hb dX5_addCode_109 (by decide) (by omega) (by omega) (fun c_109 => ?_) (fun c_109 => ?_)
                · refine lv_iconst (v := nI 0) hx hb dX5_addCode_116 ci_0 ?_
                  refine lv_istore (lv' := [(6, .int (nI 0)), (5, .int (acK x1 x2 x3 x4)), (0, .ref y0), (1, .int x1), (2, .int x2), (3, .int x3), (4, .int x4)]) hx hb dX5_addCode_117 hl (by decide) rfl (fun ls hl => ?_)
                  refine lv_iconst (v := nI 0) hx hb dX5_addCode_119 ci_0 ?_
                  refine lv_istore (lv' := [(7, .int (nI 0)), (6, .int (nI 0)), (5, .int (acK x1 x2 x3 x4)), (0, .ref y0), (1, .int x1), (2, .int x2), (3, .int x3), (4, .int x4)]) hx hb dX5_addCode_120 hl (by decide) rfl (fun ls hl => ?_)
                  have lp_122 : ∀ (Nf : Nat) (i : Nat) (fl : Nat) (hi : i ≤ k) (hf1 : fl ≤ 1) (hfl : (fl = 1 ∧ acDm K k (acK x1 x2 x3 x4) i) ∨ (fl = 0 ∧ ¬ acDm K k (acK x1 x2 x3 x4) i)) (hN : k - i < Nf) (H : Heap) (locs : List Loc) (ls : Array Slot), va_P D vwCl [(y0, .inr (5, [.int (nI 0), .int (nI k), .ref y1, .ref y2, .int (nI n), .ref y3, .int (nI q), .int (nI sg), .int rp, .int lo, .int ea, .ref y4, .ref y5, .int (nI go), .int (nI ak), .int (nI gn), .int (nI gf)])), (y1, .inl (cI, 9, .inl K)), (y2, .inl (cI, 9, .inl (nA Lm)))] H → va_S A sv.heap H locs → lv_has ls 8 [(7, .int (nI i)), (6, .int (nI fl)), (5, .int (acK x1 x2 x3 x4)), (0, .ref y0), (1, .int x1), (2, .int x2), (3, .int x3), (4, .int x4)] → W pg l ev rm_X5_addCode sv mi ag bl mt cd H locs 0 0 Q (F0 mi 122 ls []) := by
                    intro Nf
                    induction Nf with
                    | zero =>
                      intro i fl hi hf1 hfl hN
                      exact absurd hN (Nat.not_lt_zero _)
                    | succ Nf ih_122 =>
                      intro i fl hi hf1 hfl hN H locs ls hP hS hl
                      refine lv_iload hx hb dX5_addCode_122 (lv_at hl 0 rfl) ?_
                      refine lv_aload_n hx hb dX5_addCode_124 rfl (lv_at hl 3 rfl) ?_
                      refine va_get (v := .int (nI k)) hx hb hts hi_5 hown hK hP 0 rfl rfl 1 (by decide) f_36 (fun _ h => h) rfl dX5_addCode_125 ?_
                      refine z_icmp_ge (tgt := 161) hx hb dX5_addCode_128 (by decide) (by omega) (by omega) (fun c_128 => ?_) (fun c_128 => ?_)
                      · refine lv_iload hx hb dX5_addCode_161 (lv_at hl 1 rfl) ?_
                        refine z_if_eq (tgt := 172) hx hb dX5_addCode_163 (by decide) (by omega) (fun c_163 => ?_) (fun c_163 => ?_)
                        · refine lv_aload_n hx hb dX5_addCode_172 rfl (lv_at hl 3 rfl) ?_
                          refine va_get (v := .ref y1) hx hb hts hi_5 hown hK hP 0 rfl rfl 2 (by decide) f_9 (fun _ h => h) rfl dX5_addCode_173 ?_
                          refine lv_aload_n hx hb dX5_addCode_176 rfl (lv_at hl 3 rfl) ?_
                          refine va_get (v := .int (nI k)) hx hb hts hi_5 hown hK hP 0 rfl rfl 1 (by decide) f_36 (fun _ h => h) rfl dX5_addCode_177 ?_
                          refine lv_iload hx hb dX5_addCode_180 (lv_at hl 2 rfl) ?_
                          refine z_iast hx hb hK hP hD rfl hS 1 0 rfl rfl (by omega) (by decide) dX5_addCode_182 (fun H locs hP hS => ?_)
                          have hP : va_P D vwCl [(y0, .inr (5, [.int (nI 0), .int (nI k), .ref y1, .ref y2, .int (nI n), .ref y3, .int (nI q), .int (nI sg), .int rp, .int lo, .int ea, .ref y4, .ref y5, .int (nI go), .int (nI ak), .int (nI gn), .int (nI gf)])), (y1, .inl (cI, 9, .inl (upd K k (acK x1 x2 x3 x4)))), (y2, .inl (cI, 9, .inl (nA Lm)))] H := hP
                          refine lv_aload_n hx hb dX5_addCode_183 rfl (lv_at hl 3 rfl) ?_
                          refine va_get (v := .ref y2) hx hb hts hi_5 hown hK hP 0 rfl rfl 3 (by decide) f_13 (fun _ h => h) rfl dX5_addCode_184 ?_
                          refine lv_aload_n hx hb dX5_addCode_187 rfl (lv_at hl 3 rfl) ?_
                          refine va_get (v := .int (nI k)) hx hb hts hi_5 hown hK hP 0 rfl rfl 1 (by decide) f_36 (fun _ h => h) rfl dX5_addCode_188 ?_
                          refine lv_iload_n hx hb dX5_addCode_191 rfl (lv_at hl 6 rfl) ?_
                          refine lv_iconst (v := -1) hx hb dX5_addCode_192 ci_m1 ?_
                          refine lv_icmp_ne (tgt := 200) hx hb dX5_addCode_193 (by decide) (fun c_193 => ?_) (fun c_193 => ?_)
                          · refine lv_iload hx hb dX5_addCode_200 (lv_at hl 7 rfl) ?_
                            refine lv_iconst (v := -1) hx hb dX5_addCode_202 ci_m1 ?_
                            refine lv_icmp_ne (tgt := 210) hx hb dX5_addCode_203 (by decide) (fun c_203 => ?_) (fun c_203 => ?_)
                            · refine lv_iconst (v := nI 4) hx hb dX5_addCode_210 ci_4 ?_
                              refine z_iastN hx hb hK hP hD rfl hS 2 0 rfl rfl (by omega) (by decide) dX5_addCode_211 (fun H locs hP hS => ?_)
                              have hP : va_P D vwCl [(y0, .inr (5, [.int (nI 0), .int (nI k), .ref y1, .ref y2, .int (nI n), .ref y3, .int (nI q), .int (nI sg), .int rp, .int lo, .int ea, .ref y4, .ref y5, .int (nI go), .int (nI ak), .int (nI gn), .int (nI gf)])), (y1, .inl (cI, 9, .inl (upd K k (acK x1 x2 x3 x4)))), (y2, .inl (cI, 9, .inl (nA (updN Lm k 4))))] H := hP
                              refine lv_aload_n hx hb dX5_addCode_212 rfl (lv_at hl 3 rfl) ?_
                              refine lv_dup hx hb dX5_addCode_213 rfl ?_
                              refine va_get (v := .int (nI k)) hx hb hts hi_5 hown hK hP 0 rfl rfl 1 (by decide) f_36 (fun _ h => h) rfl dX5_addCode_214 ?_
                              refine lv_iconst (v := nI 1) hx hb dX5_addCode_217 ci_1 ?_
                              refine z_iadd hx hb dX5_addCode_218 ?_
                              refine z_put hx hb hts hi_5 tyX5 tyX5_ok nmX5 hown hK hP hD rfl hS 0 rfl rfl 1 (by decide) f_36 (fun _ h => h) rfl (by decide +kernel) (Nat.le_of_ble_eq_true rfl) dX5_addCode_219 (fun H locs hP hS => ?_)
                              have hP : va_P D vwCl [(y0, .inr (5, [.int (nI 0), .int (nI (k + 1)), .ref y1, .ref y2, .int (nI n), .ref y3, .int (nI q), .int (nI sg), .int rp, .int lo, .int ea, .ref y4, .ref y5, .int (nI go), .int (nI ak), .int (nI gn), .int (nI gf)])), (y1, .inl (cI, 9, .inl (upd K k (acK x1 x2 x3 x4)))), (y2, .inl (cI, 9, .inl (nA (updN Lm k 4))))] H := hP
                              refine lv_aload_n hx hb dX5_addCode_222 rfl (lv_at hl 3 rfl) ?_
                              refine va_get (v := .int (nI (k + 1))) hx hb hts hi_5 hown hK hP 0 rfl rfl 1 (by decide) f_36 (fun _ h => h) rfl dX5_addCode_223 ?_
                              refine lv_iconst (v := nI 1) hx hb dX5_addCode_226 ci_1 ?_
                              refine z_isub hx hb dX5_addCode_227 (by omega) ?_
                              exact mu_iret hA hQ hx hb hr hlocks (0, k + 1, nI ((k + 1) - 1), upd K k (acK x1 x2 x3 x4), updN Lm k 4) hP hS ⟨rfl, Or.inl ⟨hnb, ad_r hfl (by omega) (by omega), rfl, rfl, rfl, rfl, (by first | (rw [clen, if_neg c_203]; done) | (rw [clen, if_pos c_203, if_neg c_193]; done) | (rw [clen, if_pos (ad_4 hnb c_193), if_pos c_193]; done))⟩⟩ dX5_addCode_228
                            · refine lv_iconst (v := nI 3) hx hb dX5_addCode_206 ci_3 ?_
                              refine lv_goto (tgt := 211) hx hb dX5_addCode_207 (by decide) ?_
                              refine z_iastN hx hb hK hP hD rfl hS 2 0 rfl rfl (by omega) (by decide) dX5_addCode_211 (fun H locs hP hS => ?_)
                              have hP : va_P D vwCl [(y0, .inr (5, [.int (nI 0), .int (nI k), .ref y1, .ref y2, .int (nI n), .ref y3, .int (nI q), .int (nI sg), .int rp, .int lo, .int ea, .ref y4, .ref y5, .int (nI go), .int (nI ak), .int (nI gn), .int (nI gf)])), (y1, .inl (cI, 9, .inl (upd K k (acK x1 x2 x3 x4)))), (y2, .inl (cI, 9, .inl (nA (updN Lm k 3))))] H := hP
                              refine lv_aload_n hx hb dX5_addCode_212 rfl (lv_at hl 3 rfl) ?_
                              refine lv_dup hx hb dX5_addCode_213 rfl ?_
                              refine va_get (v := .int (nI k)) hx hb hts hi_5 hown hK hP 0 rfl rfl 1 (by decide) f_36 (fun _ h => h) rfl dX5_addCode_214 ?_
                              refine lv_iconst (v := nI 1) hx hb dX5_addCode_217 ci_1 ?_
                              refine z_iadd hx hb dX5_addCode_218 ?_
                              refine z_put hx hb hts hi_5 tyX5 tyX5_ok nmX5 hown hK hP hD rfl hS 0 rfl rfl 1 (by decide) f_36 (fun _ h => h) rfl (by decide +kernel) (Nat.le_of_ble_eq_true rfl) dX5_addCode_219 (fun H locs hP hS => ?_)
                              have hP : va_P D vwCl [(y0, .inr (5, [.int (nI 0), .int (nI (k + 1)), .ref y1, .ref y2, .int (nI n), .ref y3, .int (nI q), .int (nI sg), .int rp, .int lo, .int ea, .ref y4, .ref y5, .int (nI go), .int (nI ak), .int (nI gn), .int (nI gf)])), (y1, .inl (cI, 9, .inl (upd K k (acK x1 x2 x3 x4)))), (y2, .inl (cI, 9, .inl (nA (updN Lm k 3))))] H := hP
                              refine lv_aload_n hx hb dX5_addCode_222 rfl (lv_at hl 3 rfl) ?_
                              refine va_get (v := .int (nI (k + 1))) hx hb hts hi_5 hown hK hP 0 rfl rfl 1 (by decide) f_36 (fun _ h => h) rfl dX5_addCode_223 ?_
                              refine lv_iconst (v := nI 1) hx hb dX5_addCode_226 ci_1 ?_
                              refine z_isub hx hb dX5_addCode_227 (by omega) ?_
                              exact mu_iret hA hQ hx hb hr hlocks (0, k + 1, nI ((k + 1) - 1), upd K k (acK x1 x2 x3 x4), updN Lm k 3) hP hS ⟨rfl, Or.inl ⟨hnb, ad_r hfl (by omega) (by omega), rfl, rfl, rfl, rfl, (by first | (rw [clen, if_neg c_203]; done) | (rw [clen, if_pos c_203, if_neg c_193]; done) | (rw [clen, if_pos (ad_4 hnb c_193), if_pos c_193]; done))⟩⟩ dX5_addCode_228
                          · refine lv_iconst (v := nI 2) hx hb dX5_addCode_196 ci_2 ?_
                            refine lv_goto (tgt := 211) hx hb dX5_addCode_197 (by decide) ?_
                            refine z_iastN hx hb hK hP hD rfl hS 2 0 rfl rfl (by omega) (by decide) dX5_addCode_211 (fun H locs hP hS => ?_)
                            have hP : va_P D vwCl [(y0, .inr (5, [.int (nI 0), .int (nI k), .ref y1, .ref y2, .int (nI n), .ref y3, .int (nI q), .int (nI sg), .int rp, .int lo, .int ea, .ref y4, .ref y5, .int (nI go), .int (nI ak), .int (nI gn), .int (nI gf)])), (y1, .inl (cI, 9, .inl (upd K k (acK x1 x2 x3 x4)))), (y2, .inl (cI, 9, .inl (nA (updN Lm k 2))))] H := hP
                            refine lv_aload_n hx hb dX5_addCode_212 rfl (lv_at hl 3 rfl) ?_
                            refine lv_dup hx hb dX5_addCode_213 rfl ?_
                            refine va_get (v := .int (nI k)) hx hb hts hi_5 hown hK hP 0 rfl rfl 1 (by decide) f_36 (fun _ h => h) rfl dX5_addCode_214 ?_
                            refine lv_iconst (v := nI 1) hx hb dX5_addCode_217 ci_1 ?_
                            refine z_iadd hx hb dX5_addCode_218 ?_
                            refine z_put hx hb hts hi_5 tyX5 tyX5_ok nmX5 hown hK hP hD rfl hS 0 rfl rfl 1 (by decide) f_36 (fun _ h => h) rfl (by decide +kernel) (Nat.le_of_ble_eq_true rfl) dX5_addCode_219 (fun H locs hP hS => ?_)
                            have hP : va_P D vwCl [(y0, .inr (5, [.int (nI 0), .int (nI (k + 1)), .ref y1, .ref y2, .int (nI n), .ref y3, .int (nI q), .int (nI sg), .int rp, .int lo, .int ea, .ref y4, .ref y5, .int (nI go), .int (nI ak), .int (nI gn), .int (nI gf)])), (y1, .inl (cI, 9, .inl (upd K k (acK x1 x2 x3 x4)))), (y2, .inl (cI, 9, .inl (nA (updN Lm k 2))))] H := hP
                            refine lv_aload_n hx hb dX5_addCode_222 rfl (lv_at hl 3 rfl) ?_
                            refine va_get (v := .int (nI (k + 1))) hx hb hts hi_5 hown hK hP 0 rfl rfl 1 (by decide) f_36 (fun _ h => h) rfl dX5_addCode_223 ?_
                            refine lv_iconst (v := nI 1) hx hb dX5_addCode_226 ci_1 ?_
                            refine z_isub hx hb dX5_addCode_227 (by omega) ?_
                            exact mu_iret hA hQ hx hb hr hlocks (0, k + 1, nI ((k + 1) - 1), upd K k (acK x1 x2 x3 x4), updN Lm k 2) hP hS ⟨rfl, Or.inl ⟨hnb, ad_r hfl (by omega) (by omega), rfl, rfl, rfl, rfl, (by first | (rw [clen, if_neg c_203]; done) | (rw [clen, if_pos c_203, if_neg c_193]; done) | (rw [clen, if_pos (ad_4 hnb c_193), if_pos c_193]; done))⟩⟩ dX5_addCode_228
                        · refine lv_aload_n hx hb dX5_addCode_166 rfl (lv_at hl 3 rfl) ?_
                          refine lv_iconst (v := nI 2) hx hb dX5_addCode_167 ci_2 ?_
                          refine z_muV (As := [.int (nI 2)]) (rest := []) ⟨hx, hb, hml, hown, hts⟩ (c_X5_fail l D cI y0 y1 y2 y3 y4 y5 0 k n q sg rp lo ea go ak gn gf 2) (cwV 1 hts gX5_addCode_X5_fail rfl rfl rfl hd_X5_fail ⟨Nat.le_of_ble_eq_true rfl, Nat.le_of_ble_eq_true rfl⟩) ⟨hK, hE⟩ hP hD rfl hS [0] (by decide) rfl (fun _ => rfl) (va_recv hK hP (ci := 5) (q0 := 0) rfl rfl) rfl hl.1 rfl (Nat.le_of_ble_eq_true rfl) dX5_addCode_168 (Nat.zero_le _) (Nat.zero_le _) (fun v9 u9 H locs hp hP hS => ?_)
                          obtain rfl := hp
                          have hP : va_P D vwCl [(y0, .inr (5, [.int (nI 2), .int (nI k), .ref y1, .ref y2, .int (nI n), .ref y3, .int (nI q), .int (nI sg), .int rp, .int lo, .int ea, .ref y4, .ref y5, .int (nI go), .int (nI ak), .int (nI gn), .int (nI gf)])), (y1, .inl (cI, 9, .inl K)), (y2, .inl (cI, 9, .inl (nA Lm)))] H := hP
                          refine W.eq (g2 := F0 mi 171 ls [.int (nI 0)]) rfl ?_
                          exact mu_iret hA hQ hx hb hr hlocks (2, k, nI 0, K, Lm) hP hS ⟨rfl, Or.inr (Or.inr ⟨hnb, ad_q hfl (by omega) (by omega), rfl, rfl, rfl, rfl, rfl⟩)⟩ dX5_addCode_171
                      · refine lv_iload hx hb dX5_addCode_131 (lv_at hl 1 rfl) ?_
                        refine z_if_ne (tgt := 148) hx hb dX5_addCode_133 (by decide) (by omega) (fun c_133 => ?_) (fun c_133 => ?_)
                        · refine lv_iconst (v := nI 1) hx hb dX5_addCode_148 ci_1 ?_
                          refine lv_goto (tgt := 153) hx hb dX5_addCode_149 (by decide) ?_
                          refine lv_istore (lv' := [(6, .int (nI 1)), (7, .int (nI i)), (5, .int (acK x1 x2 x3 x4)), (0, .ref y0), (1, .int x1), (2, .int x2), (3, .int x3), (4, .int x4)]) hx hb dX5_addCode_153 hl (by decide) rfl (fun ls hl => ?_)
                          refine lv_iinc (v := nI (i + 1)) (lv' := [(7, .int (nI (i + 1))), (6, .int (nI 1)), (5, .int (acK x1 x2 x3 x4)), (0, .ref y0), (1, .int x1), (2, .int x2), (3, .int x3), (4, .int x4)]) hx hb dX5_addCode_155 hl (k := 1) rfl (z_inc1 _) (by decide) rfl (fun ls hl => ?_)
                          refine lv_goto (tgt := 122) hx hb dX5_addCode_158 (by decide) ?_
                          exact ih_122 (i + 1) 1 (by omega) (by decide) (by first | exact Or.inl ⟨rfl, ad_p hfl c_133⟩ | exact Or.inl ⟨rfl, Or.inr ⟨i, Nat.lt_succ_self i, c_145⟩⟩ | exact Or.inr ⟨rfl, ad_n hfl c_133 c_145⟩) (by omega) H locs ls hP hS (lv_sub hl [0, 1, 2, 3, 4, 5, 6, 7] rfl)
                        · refine lv_aload_n hx hb dX5_addCode_136 rfl (lv_at hl 3 rfl) ?_
                          refine va_get (v := .ref y1) hx hb hts hi_5 hown hK hP 0 rfl rfl 2 (by decide) f_9 (fun _ h => h) rfl dX5_addCode_137 ?_
                          refine lv_iload hx hb dX5_addCode_140 (lv_at hl 0 rfl) ?_
                          refine z_iald hx hb hK hP 1 0 rfl rfl (by omega) (by decide) dX5_addCode_142 ?_
                          refine lv_iload hx hb dX5_addCode_143 (lv_at hl 2 rfl) ?_
                          refine lv_icmp_ne (tgt := 152) hx hb dX5_addCode_145 (by decide) (fun c_145 => ?_) (fun c_145 => ?_)
                          · refine lv_iconst (v := nI 0) hx hb dX5_addCode_152 ci_0 ?_
                            refine lv_istore (lv' := [(6, .int (nI 0)), (7, .int (nI i)), (5, .int (acK x1 x2 x3 x4)), (0, .ref y0), (1, .int x1), (2, .int x2), (3, .int x3), (4, .int x4)]) hx hb dX5_addCode_153 hl (by decide) rfl (fun ls hl => ?_)
                            refine lv_iinc (v := nI (i + 1)) (lv' := [(7, .int (nI (i + 1))), (6, .int (nI 0)), (5, .int (acK x1 x2 x3 x4)), (0, .ref y0), (1, .int x1), (2, .int x2), (3, .int x3), (4, .int x4)]) hx hb dX5_addCode_155 hl (k := 1) rfl (z_inc1 _) (by decide) rfl (fun ls hl => ?_)
                            refine lv_goto (tgt := 122) hx hb dX5_addCode_158 (by decide) ?_
                            exact ih_122 (i + 1) 0 (by omega) (by decide) (by first | exact Or.inl ⟨rfl, ad_p hfl c_133⟩ | exact Or.inl ⟨rfl, Or.inr ⟨i, Nat.lt_succ_self i, c_145⟩⟩ | exact Or.inr ⟨rfl, ad_n hfl c_133 c_145⟩) (by omega) H locs ls hP hS (lv_sub hl [0, 1, 2, 3, 4, 5, 6, 7] rfl)
                          · refine lv_iconst (v := nI 1) hx hb dX5_addCode_148 ci_1 ?_
                            refine lv_goto (tgt := 153) hx hb dX5_addCode_149 (by decide) ?_
                            refine lv_istore (lv' := [(6, .int (nI 1)), (7, .int (nI i)), (5, .int (acK x1 x2 x3 x4)), (0, .ref y0), (1, .int x1), (2, .int x2), (3, .int x3), (4, .int x4)]) hx hb dX5_addCode_153 hl (by decide) rfl (fun ls hl => ?_)
                            refine lv_iinc (v := nI (i + 1)) (lv' := [(7, .int (nI (i + 1))), (6, .int (nI 1)), (5, .int (acK x1 x2 x3 x4)), (0, .ref y0), (1, .int x1), (2, .int x2), (3, .int x3), (4, .int x4)]) hx hb dX5_addCode_155 hl (k := 1) rfl (z_inc1 _) (by decide) rfl (fun ls hl => ?_)
                            refine lv_goto (tgt := 122) hx hb dX5_addCode_158 (by decide) ?_
                            exact ih_122 (i + 1) 1 (by omega) (by decide) (by first | exact Or.inl ⟨rfl, ad_p hfl c_133⟩ | exact Or.inl ⟨rfl, Or.inr ⟨i, Nat.lt_succ_self i, c_145⟩⟩ | exact Or.inr ⟨rfl, ad_n hfl c_133 c_145⟩) (by omega) H locs ls hP hS (lv_sub hl [0, 1, 2, 3, 4, 5, 6, 7] rfl)
                  exact lp_122 ((k - 0) + 1) 0 0 (Nat.zero_le _) (by decide) (by first | exact Or.inl ⟨rfl, Or.inl c_109⟩ | exact Or.inr ⟨rfl, fun z => z.elim c_109 (fun ⟨c, hc, _⟩ => absurd hc (Nat.not_lt_zero _))⟩) (Nat.lt_succ_self _) H locs ls hP hS hl
                · refine lv_iconst (v := nI 1) hx hb dX5_addCode_112 ci_1 ?_
                  refine lv_goto (tgt := 117) hx hb dX5_addCode_113 (by decide) ?_
                  refine lv_istore (lv' := [(6, .int (nI 1)), (5, .int (acK x1 x2 x3 x4)), (0, .ref y0), (1, .int x1), (2, .int x2), (3, .int x3), (4, .int x4)]) hx hb dX5_addCode_117 hl (by decide) rfl (fun ls hl => ?_)
                  refine lv_iconst (v := nI 0) hx hb dX5_addCode_119 ci_0 ?_
                  refine lv_istore (lv' := [(7, .int (nI 0)), (6, .int (nI 1)), (5, .int (acK x1 x2 x3 x4)), (0, .ref y0), (1, .int x1), (2, .int x2), (3, .int x3), (4, .int x4)]) hx hb dX5_addCode_120 hl (by decide) rfl (fun ls hl => ?_)
                  have lp_122 : ∀ (Nf : Nat) (i : Nat) (fl : Nat) (hi : i ≤ k) (hf1 : fl ≤ 1) (hfl : (fl = 1 ∧ acDm K k (acK x1 x2 x3 x4) i) ∨ (fl = 0 ∧ ¬ acDm K k (acK x1 x2 x3 x4) i)) (hN : k - i < Nf) (H : Heap) (locs : List Loc) (ls : Array Slot), va_P D vwCl [(y0, .inr (5, [.int (nI 0), .int (nI k), .ref y1, .ref y2, .int (nI n), .ref y3, .int (nI q), .int (nI sg), .int rp, .int lo, .int ea, .ref y4, .ref y5, .int (nI go), .int (nI ak), .int (nI gn), .int (nI gf)])), (y1, .inl (cI, 9, .inl K)), (y2, .inl (cI, 9, .inl (nA Lm)))] H → va_S A sv.heap H locs → lv_has ls 8 [(7, .int (nI i)), (6, .int (nI fl)), (5, .int (acK x1 x2 x3 x4)), (0, .ref y0), (1, .int x1), (2, .int x2), (3, .int x3), (4, .int x4)] → W pg l ev rm_X5_addCode sv mi ag bl mt cd H locs 0 0 Q (F0 mi 122 ls []) := by
                    intro Nf
                    induction Nf with
                    | zero =>
                      intro i fl hi hf1 hfl hN
                      exact absurd hN (Nat.not_lt_zero _)
                    | succ Nf ih_122 =>
                      intro i fl hi hf1 hfl hN H locs ls hP hS hl
                      refine lv_iload hx hb dX5_addCode_122 (lv_at hl 0 rfl) ?_
                      refine lv_aload_n hx hb dX5_addCode_124 rfl (lv_at hl 3 rfl) ?_
                      refine va_get (v := .int (nI k)) hx hb hts hi_5 hown hK hP 0 rfl rfl 1 (by decide) f_36 (fun _ h => h) rfl dX5_addCode_125 ?_
                      refine z_icmp_ge (tgt := 161) hx hb dX5_addCode_128 (by decide) (by omega) (by omega) (fun c_128 => ?_) (fun c_128 => ?_)
                      · refine lv_iload hx hb dX5_addCode_161 (lv_at hl 1 rfl) ?_
                        refine z_if_eq (tgt := 172) hx hb dX5_addCode_163 (by decide) (by omega) (fun c_163 => ?_) (fun c_163 => ?_)
                        · refine lv_aload_n hx hb dX5_addCode_172 rfl (lv_at hl 3 rfl) ?_
                          refine va_get (v := .ref y1) hx hb hts hi_5 hown hK hP 0 rfl rfl 2 (by decide) f_9 (fun _ h => h) rfl dX5_addCode_173 ?_
                          refine lv_aload_n hx hb dX5_addCode_176 rfl (lv_at hl 3 rfl) ?_
                          refine va_get (v := .int (nI k)) hx hb hts hi_5 hown hK hP 0 rfl rfl 1 (by decide) f_36 (fun _ h => h) rfl dX5_addCode_177 ?_
                          refine lv_iload hx hb dX5_addCode_180 (lv_at hl 2 rfl) ?_
                          refine z_iast hx hb hK hP hD rfl hS 1 0 rfl rfl (by omega) (by decide) dX5_addCode_182 (fun H locs hP hS => ?_)
                          have hP : va_P D vwCl [(y0, .inr (5, [.int (nI 0), .int (nI k), .ref y1, .ref y2, .int (nI n), .ref y3, .int (nI q), .int (nI sg), .int rp, .int lo, .int ea, .ref y4, .ref y5, .int (nI go), .int (nI ak), .int (nI gn), .int (nI gf)])), (y1, .inl (cI, 9, .inl (upd K k (acK x1 x2 x3 x4)))), (y2, .inl (cI, 9, .inl (nA Lm)))] H := hP
                          refine lv_aload_n hx hb dX5_addCode_183 rfl (lv_at hl 3 rfl) ?_
                          refine va_get (v := .ref y2) hx hb hts hi_5 hown hK hP 0 rfl rfl 3 (by decide) f_13 (fun _ h => h) rfl dX5_addCode_184 ?_
                          refine lv_aload_n hx hb dX5_addCode_187 rfl (lv_at hl 3 rfl) ?_
                          refine va_get (v := .int (nI k)) hx hb hts hi_5 hown hK hP 0 rfl rfl 1 (by decide) f_36 (fun _ h => h) rfl dX5_addCode_188 ?_
                          refine lv_iload_n hx hb dX5_addCode_191 rfl (lv_at hl 6 rfl) ?_
                          refine lv_iconst (v := -1) hx hb dX5_addCode_192 ci_m1 ?_
                          refine lv_icmp_ne (tgt := 200) hx hb dX5_addCode_193 (by decide) (fun c_193 => ?_) (fun c_193 => ?_)
                          · refine lv_iload hx hb dX5_addCode_200 (lv_at hl 7 rfl) ?_
                            refine lv_iconst (v := -1) hx hb dX5_addCode_202 ci_m1 ?_
                            refine lv_icmp_ne (tgt := 210) hx hb dX5_addCode_203 (by decide) (fun c_203 => ?_) (fun c_203 => ?_)
                            · refine lv_iconst (v := nI 4) hx hb dX5_addCode_210 ci_4 ?_
                              refine z_iastN hx hb hK hP hD rfl hS 2 0 rfl rfl (by omega) (by decide) dX5_addCode_211 (fun H locs hP hS => ?_)
                              have hP : va_P D vwCl [(y0, .inr (5, [.int (nI 0), .int (nI k), .ref y1, .ref y2, .int (nI n), .ref y3, .int (nI q), .int (nI sg), .int rp, .int lo, .int ea, .ref y4, .ref y5, .int (nI go), .int (nI ak), .int (nI gn), .int (nI gf)])), (y1, .inl (cI, 9, .inl (upd K k (acK x1 x2 x3 x4)))), (y2, .inl (cI, 9, .inl (nA (updN Lm k 4))))] H := hP
                              refine lv_aload_n hx hb dX5_addCode_212 rfl (lv_at hl 3 rfl) ?_
                              refine lv_dup hx hb dX5_addCode_213 rfl ?_
                              refine va_get (v := .int (nI k)) hx hb hts hi_5 hown hK hP 0 rfl rfl 1 (by decide) f_36 (fun _ h => h) rfl dX5_addCode_214 ?_
                              refine lv_iconst (v := nI 1) hx hb dX5_addCode_217 ci_1 ?_
                              refine z_iadd hx hb dX5_addCode_218 ?_
                              refine z_put hx hb hts hi_5 tyX5 tyX5_ok nmX5 hown hK hP hD rfl hS 0 rfl rfl 1 (by decide) f_36 (fun _ h => h) rfl (by decide +kernel) (Nat.le_of_ble_eq_true rfl) dX5_addCode_219 (fun H locs hP hS => ?_)
                              have hP : va_P D vwCl [(y0, .inr (5, [.int (nI 0), .int (nI (k + 1)), .ref y1, .ref y2, .int (nI n), .ref y3, .int (nI q), .int (nI sg), .int rp, .int lo, .int ea, .ref y4, .ref y5, .int (nI go), .int (nI ak), .int (nI gn), .int (nI gf)])), (y1, .inl (cI, 9, .inl (upd K k (acK x1 x2 x3 x4)))), (y2, .inl (cI, 9, .inl (nA (updN Lm k 4))))] H := hP
                              refine lv_aload_n hx hb dX5_addCode_222 rfl (lv_at hl 3 rfl) ?_
                              refine va_get (v := .int (nI (k + 1))) hx hb hts hi_5 hown hK hP 0 rfl rfl 1 (by decide) f_36 (fun _ h => h) rfl dX5_addCode_223 ?_
                              refine lv_iconst (v := nI 1) hx hb dX5_addCode_226 ci_1 ?_
                              refine z_isub hx hb dX5_addCode_227 (by omega) ?_
                              exact mu_iret hA hQ hx hb hr hlocks (0, k + 1, nI ((k + 1) - 1), upd K k (acK x1 x2 x3 x4), updN Lm k 4) hP hS ⟨rfl, Or.inl ⟨hnb, ad_r hfl (by omega) (by omega), rfl, rfl, rfl, rfl, (by first | (rw [clen, if_neg c_203]; done) | (rw [clen, if_pos c_203, if_neg c_193]; done) | (rw [clen, if_pos (ad_4 hnb c_193), if_pos c_193]; done))⟩⟩ dX5_addCode_228
                            · refine lv_iconst (v := nI 3) hx hb dX5_addCode_206 ci_3 ?_
                              refine lv_goto (tgt := 211) hx hb dX5_addCode_207 (by decide) ?_
                              refine z_iastN hx hb hK hP hD rfl hS 2 0 rfl rfl (by omega) (by decide) dX5_addCode_211 (fun H locs hP hS => ?_)
                              have hP : va_P D vwCl [(y0, .inr (5, [.int (nI 0), .int (nI k), .ref y1, .ref y2, .int (nI n), .ref y3, .int (nI q), .int (nI sg), .int rp, .int lo, .int ea, .ref y4, .ref y5, .int (nI go), .int (nI ak), .int (nI gn), .int (nI gf)])), (y1, .inl (cI, 9, .inl (upd K k (acK x1 x2 x3 x4)))), (y2, .inl (cI, 9, .inl (nA (updN Lm k 3))))] H := hP
                              refine lv_aload_n hx hb dX5_addCode_212 rfl (lv_at hl 3 rfl) ?_
                              refine lv_dup hx hb dX5_addCode_213 rfl ?_
                              refine va_get (v := .int (nI k)) hx hb hts hi_5 hown hK hP 0 rfl rfl 1 (by decide) f_36 (fun _ h => h) rfl dX5_addCode_214 ?_
                              refine lv_iconst (v := nI 1) hx hb dX5_addCode_217 ci_1 ?_
                              refine z_iadd hx hb dX5_addCode_218 ?_
                              refine z_put hx hb hts hi_5 tyX5 tyX5_ok nmX5 hown hK hP hD rfl hS 0 rfl rfl 1 (by decide) f_36 (fun _ h => h) rfl (by decide +kernel) (Nat.le_of_ble_eq_true rfl) dX5_addCode_219 (fun H locs hP hS => ?_)
                              have hP : va_P D vwCl [(y0, .inr (5, [.int (nI 0), .int (nI (k + 1)), .ref y1, .ref y2, .int (nI n), .ref y3, .int (nI q), .int (nI sg), .int rp, .int lo, .int ea, .ref y4, .ref y5, .int (nI go), .int (nI ak), .int (nI gn), .int (nI gf)])), (y1, .inl (cI, 9, .inl (upd K k (acK x1 x2 x3 x4)))), (y2, .inl (cI, 9, .inl (nA (updN Lm k 3))))] H := hP
                              refine lv_aload_n hx hb dX5_addCode_222 rfl (lv_at hl 3 rfl) ?_
                              refine va_get (v := .int (nI (k + 1))) hx hb hts hi_5 hown hK hP 0 rfl rfl 1 (by decide) f_36 (fun _ h => h) rfl dX5_addCode_223 ?_
                              refine lv_iconst (v := nI 1) hx hb dX5_addCode_226 ci_1 ?_
                              refine z_isub hx hb dX5_addCode_227 (by omega) ?_
                              exact mu_iret hA hQ hx hb hr hlocks (0, k + 1, nI ((k + 1) - 1), upd K k (acK x1 x2 x3 x4), updN Lm k 3) hP hS ⟨rfl, Or.inl ⟨hnb, ad_r hfl (by omega) (by omega), rfl, rfl, rfl, rfl, (by first | (rw [clen, if_neg c_203]; done) | (rw [clen, if_pos c_203, if_neg c_193]; done) | (rw [clen, if_pos (ad_4 hnb c_193), if_pos c_193]; done))⟩⟩ dX5_addCode_228
                          · refine lv_iconst (v := nI 2) hx hb dX5_addCode_196 ci_2 ?_
                            refine lv_goto (tgt := 211) hx hb dX5_addCode_197 (by decide) ?_
                            refine z_iastN hx hb hK hP hD rfl hS 2 0 rfl rfl (by omega) (by decide) dX5_addCode_211 (fun H locs hP hS => ?_)
                            have hP : va_P D vwCl [(y0, .inr (5, [.int (nI 0), .int (nI k), .ref y1, .ref y2, .int (nI n), .ref y3, .int (nI q), .int (nI sg), .int rp, .int lo, .int ea, .ref y4, .ref y5, .int (nI go), .int (nI ak), .int (nI gn), .int (nI gf)])), (y1, .inl (cI, 9, .inl (upd K k (acK x1 x2 x3 x4)))), (y2, .inl (cI, 9, .inl (nA (updN Lm k 2))))] H := hP
                            refine lv_aload_n hx hb dX5_addCode_212 rfl (lv_at hl 3 rfl) ?_
                            refine lv_dup hx hb dX5_addCode_213 rfl ?_
                            refine va_get (v := .int (nI k)) hx hb hts hi_5 hown hK hP 0 rfl rfl 1 (by decide) f_36 (fun _ h => h) rfl dX5_addCode_214 ?_
                            refine lv_iconst (v := nI 1) hx hb dX5_addCode_217 ci_1 ?_
                            refine z_iadd hx hb dX5_addCode_218 ?_
                            refine z_put hx hb hts hi_5 tyX5 tyX5_ok nmX5 hown hK hP hD rfl hS 0 rfl rfl 1 (by decide) f_36 (fun _ h => h) rfl (by decide +kernel) (Nat.le_of_ble_eq_true rfl) dX5_addCode_219 (fun H locs hP hS => ?_)
                            have hP : va_P D vwCl [(y0, .inr (5, [.int (nI 0), .int (nI (k + 1)), .ref y1, .ref y2, .int (nI n), .ref y3, .int (nI q), .int (nI sg), .int rp, .int lo, .int ea, .ref y4, .ref y5, .int (nI go), .int (nI ak), .int (nI gn), .int (nI gf)])), (y1, .inl (cI, 9, .inl (upd K k (acK x1 x2 x3 x4)))), (y2, .inl (cI, 9, .inl (nA (updN Lm k 2))))] H := hP
                            refine lv_aload_n hx hb dX5_addCode_222 rfl (lv_at hl 3 rfl) ?_
                            refine va_get (v := .int (nI (k + 1))) hx hb hts hi_5 hown hK hP 0 rfl rfl 1 (by decide) f_36 (fun _ h => h) rfl dX5_addCode_223 ?_
                            refine lv_iconst (v := nI 1) hx hb dX5_addCode_226 ci_1 ?_
                            refine z_isub hx hb dX5_addCode_227 (by omega) ?_
                            exact mu_iret hA hQ hx hb hr hlocks (0, k + 1, nI ((k + 1) - 1), upd K k (acK x1 x2 x3 x4), updN Lm k 2) hP hS ⟨rfl, Or.inl ⟨hnb, ad_r hfl (by omega) (by omega), rfl, rfl, rfl, rfl, (by first | (rw [clen, if_neg c_203]; done) | (rw [clen, if_pos c_203, if_neg c_193]; done) | (rw [clen, if_pos (ad_4 hnb c_193), if_pos c_193]; done))⟩⟩ dX5_addCode_228
                        · refine lv_aload_n hx hb dX5_addCode_166 rfl (lv_at hl 3 rfl) ?_
                          refine lv_iconst (v := nI 2) hx hb dX5_addCode_167 ci_2 ?_
                          refine z_muV (As := [.int (nI 2)]) (rest := []) ⟨hx, hb, hml, hown, hts⟩ (c_X5_fail l D cI y0 y1 y2 y3 y4 y5 0 k n q sg rp lo ea go ak gn gf 2) (cwV 1 hts gX5_addCode_X5_fail rfl rfl rfl hd_X5_fail ⟨Nat.le_of_ble_eq_true rfl, Nat.le_of_ble_eq_true rfl⟩) ⟨hK, hE⟩ hP hD rfl hS [0] (by decide) rfl (fun _ => rfl) (va_recv hK hP (ci := 5) (q0 := 0) rfl rfl) rfl hl.1 rfl (Nat.le_of_ble_eq_true rfl) dX5_addCode_168 (Nat.zero_le _) (Nat.zero_le _) (fun v9 u9 H locs hp hP hS => ?_)
                          obtain rfl := hp
                          have hP : va_P D vwCl [(y0, .inr (5, [.int (nI 2), .int (nI k), .ref y1, .ref y2, .int (nI n), .ref y3, .int (nI q), .int (nI sg), .int rp, .int lo, .int ea, .ref y4, .ref y5, .int (nI go), .int (nI ak), .int (nI gn), .int (nI gf)])), (y1, .inl (cI, 9, .inl K)), (y2, .inl (cI, 9, .inl (nA Lm)))] H := hP
                          refine W.eq (g2 := F0 mi 171 ls [.int (nI 0)]) rfl ?_
                          exact mu_iret hA hQ hx hb hr hlocks (2, k, nI 0, K, Lm) hP hS ⟨rfl, Or.inr (Or.inr ⟨hnb, ad_q hfl (by omega) (by omega), rfl, rfl, rfl, rfl, rfl⟩)⟩ dX5_addCode_171
                      · refine lv_iload hx hb dX5_addCode_131 (lv_at hl 1 rfl) ?_
                        refine z_if_ne (tgt := 148) hx hb dX5_addCode_133 (by decide) (by omega) (fun c_133 => ?_) (fun c_133 => ?_)
                        · refine lv_iconst (v := nI 1) hx hb dX5_addCode_148 ci_1 ?_
                          refine lv_goto (tgt := 153) hx hb dX5_addCode_149 (by decide) ?_
                          refine lv_istore (lv' := [(6, .int (nI 1)), (7, .int (nI i)), (5, .int (acK x1 x2 x3 x4)), (0, .ref y0), (1, .int x1), (2, .int x2), (3, .int x3), (4, .int x4)]) hx hb dX5_addCode_153 hl (by decide) rfl (fun ls hl => ?_)
                          refine lv_iinc (v := nI (i + 1)) (lv' := [(7, .int (nI (i + 1))), (6, .int (nI 1)), (5, .int (acK x1 x2 x3 x4)), (0, .ref y0), (1, .int x1), (2, .int x2), (3, .int x3), (4, .int x4)]) hx hb dX5_addCode_155 hl (k := 1) rfl (z_inc1 _) (by decide) rfl (fun ls hl => ?_)
                          refine lv_goto (tgt := 122) hx hb dX5_addCode_158 (by decide) ?_
                          exact ih_122 (i + 1) 1 (by omega) (by decide) (by first | exact Or.inl ⟨rfl, ad_p hfl c_133⟩ | exact Or.inl ⟨rfl, Or.inr ⟨i, Nat.lt_succ_self i, c_145⟩⟩ | exact Or.inr ⟨rfl, ad_n hfl c_133 c_145⟩) (by omega) H locs ls hP hS (lv_sub hl [0, 1, 2, 3, 4, 5, 6, 7] rfl)
                        · refine lv_aload_n hx hb dX5_addCode_136 rfl (lv_at hl 3 rfl) ?_
                          refine va_get (v := .ref y1) hx hb hts hi_5 hown hK hP 0 rfl rfl 2 (by decide) f_9 (fun _ h => h) rfl dX5_addCode_137 ?_
                          refine lv_iload hx hb dX5_addCode_140 (lv_at hl 0 rfl) ?_
                          refine z_iald hx hb hK hP 1 0 rfl rfl (by omega) (by decide) dX5_addCode_142 ?_
                          refine lv_iload hx hb dX5_addCode_143 (lv_at hl 2 rfl) ?_
                          refine lv_icmp_ne (tgt := 152) hx hb dX5_addCode_145 (by decide) (fun c_145 => ?_) (fun c_145 => ?_)
                          · refine lv_iconst (v := nI 0) hx hb dX5_addCode_152 ci_0 ?_
                            refine lv_istore (lv' := [(6, .int (nI 0)), (7, .int (nI i)), (5, .int (acK x1 x2 x3 x4)), (0, .ref y0), (1, .int x1), (2, .int x2), (3, .int x3), (4, .int x4)]) hx hb dX5_addCode_153 hl (by decide) rfl (fun ls hl => ?_)
                            refine lv_iinc (v := nI (i + 1)) (lv' := [(7, .int (nI (i + 1))), (6, .int (nI 0)), (5, .int (acK x1 x2 x3 x4)), (0, .ref y0), (1, .int x1), (2, .int x2), (3, .int x3), (4, .int x4)]) hx hb dX5_addCode_155 hl (k := 1) rfl (z_inc1 _) (by decide) rfl (fun ls hl => ?_)
                            refine lv_goto (tgt := 122) hx hb dX5_addCode_158 (by decide) ?_
                            exact ih_122 (i + 1) 0 (by omega) (by decide) (by first | exact Or.inl ⟨rfl, ad_p hfl c_133⟩ | exact Or.inl ⟨rfl, Or.inr ⟨i, Nat.lt_succ_self i, c_145⟩⟩ | exact Or.inr ⟨rfl, ad_n hfl c_133 c_145⟩) (by omega) H locs ls hP hS (lv_sub hl [0, 1, 2, 3, 4, 5, 6, 7] rfl)
                          · refine lv_iconst (v := nI 1) hx hb dX5_addCode_148 ci_1 ?_
                            refine lv_goto (tgt := 153) hx hb dX5_addCode_149 (by decide) ?_
                            refine lv_istore (lv' := [(6, .int (nI 1)), (7, .int (nI i)), (5, .int (acK x1 x2 x3 x4)), (0, .ref y0), (1, .int x1), (2, .int x2), (3, .int x3), (4, .int x4)]) hx hb dX5_addCode_153 hl (by decide) rfl (fun ls hl => ?_)
                            refine lv_iinc (v := nI (i + 1)) (lv' := [(7, .int (nI (i + 1))), (6, .int (nI 1)), (5, .int (acK x1 x2 x3 x4)), (0, .ref y0), (1, .int x1), (2, .int x2), (3, .int x3), (4, .int x4)]) hx hb dX5_addCode_155 hl (k := 1) rfl (z_inc1 _) (by decide) rfl (fun ls hl => ?_)
                            refine lv_goto (tgt := 122) hx hb dX5_addCode_158 (by decide) ?_
                            exact ih_122 (i + 1) 1 (by omega) (by decide) (by first | exact Or.inl ⟨rfl, ad_p hfl c_133⟩ | exact Or.inl ⟨rfl, Or.inr ⟨i, Nat.lt_succ_self i, c_145⟩⟩ | exact Or.inr ⟨rfl, ad_n hfl c_133 c_145⟩) (by omega) H locs ls hP hS (lv_sub hl [0, 1, 2, 3, 4, 5, 6, 7] rfl)
                  exact lp_122 ((k - 0) + 1) 0 1 (Nat.zero_le _) (by decide) (by first | exact Or.inl ⟨rfl, Or.inl c_109⟩ | exact Or.inr ⟨rfl, fun z => z.elim c_109 (fun ⟨c, hc, _⟩ => absurd hc (Nat.not_lt_zero _))⟩) (Nat.lt_succ_self _) H locs ls hP hS hl
            · refine z_bipush (n := 11) hx hb rfl (by decide) dX5_addCode_74 ?_
              refine lv_iload hx hb dX5_addCode_76 (lv_at hl 0 rfl) ?_
              refine lv_imul hx hb dX5_addCode_78 ?_
              refine lv_iload_n hx hb dX5_addCode_79 rfl (lv_at hl 4 rfl) ?_
              refine lv_iadd hx hb dX5_addCode_80 ?_
              refine lv_iconst (v := nI 1) hx hb dX5_addCode_81 ci_1 ?_
              refine lv_iadd hx hb dX5_addCode_82 ?_
              refine lv_istore (lv' := [(5, .int ((((nI 11) * (ac2 x1 x2)) + x3) + (nI 1))), (0, .ref y0), (1, .int x1), (2, .int x2), (3, .int x3), (4, .int x4)]) hx hb dX5_addCode_83 hl (by decide) rfl (fun ls hl => ?_)
              rw [show (((nI 11) * (ac2 x1 x2)) + x3) + (nI 1) = acN (ac2 x1 x2) x3 from (by unfold acN; first | exact (if_pos c_71).symm | exact (if_neg c_71).symm)] at hl
              refine lv_iload hx hb dX5_addCode_85 (lv_at hl 5 rfl) ?_
              refine lv_iconst (v := -1) hx hb dX5_addCode_87 ci_m1 ?_
              refine lv_icmp_eq (tgt := 103) hx hb dX5_addCode_88 (by decide) (fun c_88 => ?_) (fun c_88 => ?_)
              · rw [show acN (ac2 x1 x2) x3 = acK x1 x2 x3 x4 from (by unfold acK; conv => { rhs; unfold acN }; first | exact (if_pos c_88).symm | exact (if_neg c_88).symm)] at hl
                refine lv_aload_n hx hb dX5_addCode_103 rfl (lv_at hl 1 rfl) ?_
                refine va_get (v := .int (nI k)) hx hb hts hi_5 hown hK hP 0 rfl rfl 1 (by decide) f_36 (fun _ h => h) rfl dX5_addCode_104 ?_
                refine z_bipush (n := 8) hx hb rfl (by decide) dX5_addCode_107 ?_
                refine z_icmp_ne (tgt := 116) hx hb dX5_addCode_109 (by decide) (by omega) (by omega) (fun c_109 => ?_) (fun c_109 => ?_)
                · refine lv_iconst (v := nI 0) hx hb dX5_addCode_116 ci_0 ?_
                  refine lv_istore (lv' := [(6, .int (nI 0)), (5, .int (acK x1 x2 x3 x4)), (0, .ref y0), (1, .int x1), (2, .int x2), (3, .int x3), (4, .int x4)]) hx hb dX5_addCode_117 hl (by decide) rfl (fun ls hl => ?_)
                  refine lv_iconst (v := nI 0) hx hb dX5_addCode_119 ci_0 ?_
                  refine lv_istore (lv' := [(7, .int (nI 0)), (6, .int (nI 0)), (5, .int (acK x1 x2 x3 x4)), (0, .ref y0), (1, .int x1), (2, .int x2), (3, .int x3), (4, .int x4)]) hx hb dX5_addCode_120 hl (by decide) rfl (fun ls hl => ?_)
                  have lp_122 : ∀ (Nf : Nat) (i : Nat) (fl : Nat) (hi : i ≤ k) (hf1 : fl ≤ 1) (hfl : (fl = 1 ∧ acDm K k (acK x1 x2 x3 x4) i) ∨ (fl = 0 ∧ ¬ acDm K k (acK x1 x2 x3 x4) i)) (hN : k - i < Nf) (H : Heap) (locs : List Loc) (ls : Array Slot), va_P D vwCl [(y0, .inr (5, [.int (nI 0), .int (nI k), .ref y1, .ref y2, .int (nI n), .ref y3, .int (nI q), .int (nI sg), .int rp, .int lo, .int ea, .ref y4, .ref y5, .int (nI go), .int (nI ak), .int (nI gn), .int (nI gf)])), (y1, .inl (cI, 9, .inl K)), (y2, .inl (cI, 9, .inl (nA Lm)))] H → va_S A sv.heap H locs → lv_has ls 8 [(7, .int (nI i)), (6, .int (nI fl)), (5, .int (acK x1 x2 x3 x4)), (0, .ref y0), (1, .int x1), (2, .int x2), (3, .int x3), (4, .int x4)] → W pg l ev rm_X5_addCode sv mi ag bl mt cd H locs 0 0 Q (F0 mi 122 ls []) := by
                    intro Nf
                    induction Nf with
                    | zero =>
                      intro i fl hi hf1 hfl hN
                      exact absurd hN (Nat.not_lt_zero _)
                    | succ Nf ih_122 =>
                      intro i fl hi hf1 hfl hN H locs ls hP hS hl
                      refine lv_iload hx hb dX5_addCode_122 (lv_at hl 0 rfl) ?_
                      refine lv_aload_n hx hb dX5_addCode_124 rfl (lv_at hl 3 rfl) ?_
                      refine va_get (v := .int (nI k)) hx hb hts hi_5 hown hK hP 0 rfl rfl 1 (by decide) f_36 (fun _ h => h) rfl dX5_addCode_125 ?_
                      refine z_icmp_ge (tgt := 161) hx hb dX5_addCode_128 (by decide) (by omega) (by omega) (fun c_128 => ?_) (fun c_128 => ?_)
                      · refine lv_iload hx hb dX5_addCode_161 (lv_at hl 1 rfl) ?_
                        refine z_if_eq (tgt := 172) hx hb dX5_addCode_163 (by decide) (by omega) (fun c_163 => ?_) (fun c_163 => ?_)
                        · refine lv_aload_n hx hb dX5_addCode_172 rfl (lv_at hl 3 rfl) ?_
                          refine va_get (v := .ref y1) hx hb hts hi_5 hown hK hP 0 rfl rfl 2 (by decide) f_9 (fun _ h => h) rfl dX5_addCode_173 ?_
                          refine lv_aload_n hx hb dX5_addCode_176 rfl (lv_at hl 3 rfl) ?_
                          refine va_get (v := .int (nI k)) hx hb hts hi_5 hown hK hP 0 rfl rfl 1 (by decide) f_36 (fun _ h => h) rfl dX5_addCode_177 ?_
                          refine lv_iload hx hb dX5_addCode_180 (lv_at hl 2 rfl) ?_
                          refine z_iast hx hb hK hP hD rfl hS 1 0 rfl rfl (by omega) (by decide) dX5_addCode_182 (fun H locs hP hS => ?_)
                          have hP : va_P D vwCl [(y0, .inr (5, [.int (nI 0), .int (nI k), .ref y1, .ref y2, .int (nI n), .ref y3, .int (nI q), .int (nI sg), .int rp, .int lo, .int ea, .ref y4, .ref y5, .int (nI go), .int (nI ak), .int (nI gn), .int (nI gf)])), (y1, .inl (cI, 9, .inl (upd K k (acK x1 x2 x3 x4)))), (y2, .inl (cI, 9, .inl (nA Lm)))] H := hP
                          refine lv_aload_n hx hb dX5_addCode_183 rfl (lv_at hl 3 rfl) ?_
                          refine va_get (v := .ref y2) hx hb hts hi_5 hown hK hP 0 rfl rfl 3 (by decide) f_13 (fun _ h => h) rfl dX5_addCode_184 ?_
                          refine lv_aload_n hx hb dX5_addCode_187 rfl (lv_at hl 3 rfl) ?_
                          refine va_get (v := .int (nI k)) hx hb hts hi_5 hown hK hP 0 rfl rfl 1 (by decide) f_36 (fun _ h => h) rfl dX5_addCode_188 ?_
                          refine lv_iload_n hx hb dX5_addCode_191 rfl (lv_at hl 6 rfl) ?_
                          refine lv_iconst (v := -1) hx hb dX5_addCode_192 ci_m1 ?_
                          refine lv_icmp_ne (tgt := 200) hx hb dX5_addCode_193 (by decide) (fun c_193 => ?_) (fun c_193 => ?_)
                          · refine lv_iload hx hb dX5_addCode_200 (lv_at hl 7 rfl) ?_
                            refine lv_iconst (v := -1) hx hb dX5_addCode_202 ci_m1 ?_
                            refine lv_icmp_ne (tgt := 210) hx hb dX5_addCode_203 (by decide) (fun c_203 => ?_) (fun c_203 => ?_)
                            · refine lv_iconst (v := nI 4) hx hb dX5_addCode_210 ci_4 ?_
                              refine z_iastN hx hb hK hP hD rfl hS 2 0 rfl rfl (by omega) (by decide) dX5_addCode_211 (fun H locs hP hS => ?_)
                              have hP : va_P D vwCl [(y0, .inr (5, [.int (nI 0), .int (nI k), .ref y1, .ref y2, .int (nI n), .ref y3, .int (nI q), .int (nI sg), .int rp, .int lo, .int ea, .ref y4, .ref y5, .int (nI go), .int (nI ak), .int (nI gn), .int (nI gf)])), (y1, .inl (cI, 9, .inl (upd K k (acK x1 x2 x3 x4)))), (y2, .inl (cI, 9, .inl (nA (updN Lm k 4))))] H := hP
                              refine lv_aload_n hx hb dX5_addCode_212 rfl (lv_at hl 3 rfl) ?_
                              refine lv_dup hx hb dX5_addCode_213 rfl ?_
                              refine va_get (v := .int (nI k)) hx hb hts hi_5 hown hK hP 0 rfl rfl 1 (by decide) f_36 (fun _ h => h) rfl dX5_addCode_214 ?_
                              refine lv_iconst (v := nI 1) hx hb dX5_addCode_217 ci_1 ?_
                              refine z_iadd hx hb dX5_addCode_218 ?_
                              refine z_put hx hb hts hi_5 tyX5 tyX5_ok nmX5 hown hK hP hD rfl hS 0 rfl rfl 1 (by decide) f_36 (fun _ h => h) rfl (by decide +kernel) (Nat.le_of_ble_eq_true rfl) dX5_addCode_219 (fun H locs hP hS => ?_)
                              have hP : va_P D vwCl [(y0, .inr (5, [.int (nI 0), .int (nI (k + 1)), .ref y1, .ref y2, .int (nI n), .ref y3, .int (nI q), .int (nI sg), .int rp, .int lo, .int ea, .ref y4, .ref y5, .int (nI go), .int (nI ak), .int (nI gn), .int (nI gf)])), (y1, .inl (cI, 9, .inl (upd K k (acK x1 x2 x3 x4)))), (y2, .inl (cI, 9, .inl (nA (updN Lm k 4))))] H := hP
                              refine lv_aload_n hx hb dX5_addCode_222 rfl (lv_at hl 3 rfl) ?_
                              refine va_get (v := .int (nI (k + 1))) hx hb hts hi_5 hown hK hP 0 rfl rfl 1 (by decide) f_36 (fun _ h => h) rfl dX5_addCode_223 ?_
                              refine lv_iconst (v := nI 1) hx hb dX5_addCode_226 ci_1 ?_
                              refine z_isub hx hb dX5_addCode_227 (by omega) ?_
                              exact mu_iret hA hQ hx hb hr hlocks (0, k + 1, nI ((k + 1) - 1), upd K k (acK x1 x2 x3 x4), updN Lm k 4) hP hS ⟨rfl, Or.inl ⟨hnb, ad_r hfl (by omega) (by omega), rfl, rfl, rfl, rfl, (by first | (rw [clen, if_neg c_203]; done) | (rw [clen, if_pos c_203, if_neg c_193]; done) | (rw [clen, if_pos (ad_4 hnb c_193), if_pos c_193]; done))⟩⟩ dX5_addCode_228
                            · refine lv_iconst (v := nI 3) hx hb dX5_addCode_206 ci_3 ?_
                              refine lv_goto (tgt := 211) hx hb dX5_addCode_207 (by decide) ?_
                              refine z_iastN hx hb hK hP hD rfl hS 2 0 rfl rfl (by omega) (by decide) dX5_addCode_211 (fun H locs hP hS => ?_)
                              have hP : va_P D vwCl [(y0, .inr (5, [.int (nI 0), .int (nI k), .ref y1, .ref y2, .int (nI n), .ref y3, .int (nI q), .int (nI sg), .int rp, .int lo, .int ea, .ref y4, .ref y5, .int (nI go), .int (nI ak), .int (nI gn), .int (nI gf)])), (y1, .inl (cI, 9, .inl (upd K k (acK x1 x2 x3 x4)))), (y2, .inl (cI, 9, .inl (nA (updN Lm k 3))))] H := hP
                              refine lv_aload_n hx hb dX5_addCode_212 rfl (lv_at hl 3 rfl) ?_
                              refine lv_dup hx hb dX5_addCode_213 rfl ?_
                              refine va_get (v := .int (nI k)) hx hb hts hi_5 hown hK hP 0 rfl rfl 1 (by decide) f_36 (fun _ h => h) rfl dX5_addCode_214 ?_
                              refine lv_iconst (v := nI 1) hx hb dX5_addCode_217 ci_1 ?_
                              refine z_iadd hx hb dX5_addCode_218 ?_
                              refine z_put hx hb hts hi_5 tyX5 tyX5_ok nmX5 hown hK hP hD rfl hS 0 rfl rfl 1 (by decide) f_36 (fun _ h => h) rfl (by decide +kernel) (Nat.le_of_ble_eq_true rfl) dX5_addCode_219 (fun H locs hP hS => ?_)
                              have hP : va_P D vwCl [(y0, .inr (5, [.int (nI 0), .int (nI (k + 1)), .ref y1, .ref y2, .int (nI n), .ref y3, .int (nI q), .int (nI sg), .int rp, .int lo, .int ea, .ref y4, .ref y5, .int (nI go), .int (nI ak), .int (nI gn), .int (nI gf)])), (y1, .inl (cI, 9, .inl (upd K k (acK x1 x2 x3 x4)))), (y2, .inl (cI, 9, .inl (nA (updN Lm k 3))))] H := hP
                              refine lv_aload_n hx hb dX5_addCode_222 rfl (lv_at hl 3 rfl) ?_
                              refine va_get (v := .int (nI (k + 1))) hx hb hts hi_5 hown hK hP 0 rfl rfl 1 (by decide) f_36 (fun _ h => h) rfl dX5_addCode_223 ?_
                              refine lv_iconst (v := nI 1) hx hb dX5_addCode_226 ci_1 ?_
                              refine z_isub hx hb dX5_addCode_227 (by omega) ?_
                              exact mu_iret hA hQ hx hb hr hlocks (0, k + 1, nI ((k + 1) - 1), upd K k (acK x1 x2 x3 x4), updN Lm k 3) hP hS ⟨rfl, Or.inl ⟨hnb, ad_r hfl (by omega) (by omega), rfl, rfl, rfl, rfl, (by first | (rw [clen, if_neg c_203]; done) | (rw [clen, if_pos c_203, if_neg c_193]; done) | (rw [clen, if_pos (ad_4 hnb c_193), if_pos c_193]; done))⟩⟩ dX5_addCode_228
                          · refine lv_iconst (v := nI 2) hx hb dX5_addCode_196 ci_2 ?_
                            refine lv_goto (tgt := 211) hx hb dX5_addCode_197 (by decide) ?_
                            refine z_iastN hx hb hK hP hD rfl hS 2 0 rfl rfl (by omega) (by decide) dX5_addCode_211 (fun H locs hP hS => ?_)
                            have hP : va_P D vwCl [(y0, .inr (5, [.int (nI 0), .int (nI k), .ref y1, .ref y2, .int (nI n), .ref y3, .int (nI q), .int (nI sg), .int rp, .int lo, .int ea, .ref y4, .ref y5, .int (nI go), .int (nI ak), .int (nI gn), .int (nI gf)])), (y1, .inl (cI, 9, .inl (upd K k (acK x1 x2 x3 x4)))), (y2, .inl (cI, 9, .inl (nA (updN Lm k 2))))] H := hP
                            refine lv_aload_n hx hb dX5_addCode_212 rfl (lv_at hl 3 rfl) ?_
                            refine lv_dup hx hb dX5_addCode_213 rfl ?_
                            refine va_get (v := .int (nI k)) hx hb hts hi_5 hown hK hP 0 rfl rfl 1 (by decide) f_36 (fun _ h => h) rfl dX5_addCode_214 ?_
                            refine lv_iconst (v := nI 1) hx hb dX5_addCode_217 ci_1 ?_
                            refine z_iadd hx hb dX5_addCode_218 ?_
                            refine z_put hx hb hts hi_5 tyX5 tyX5_ok nmX5 hown hK hP hD rfl hS 0 rfl rfl 1 (by decide) f_36 (fun _ h => h) rfl (by decide +kernel) (Nat.le_of_ble_eq_true rfl) dX5_addCode_219 (fun H locs hP hS => ?_)
                            have hP : va_P D vwCl [(y0, .inr (5, [.int (nI 0), .int (nI (k + 1)), .ref y1, .ref y2, .int (nI n), .ref y3, .int (nI q), .int (nI sg), .int rp, .int lo, .int ea, .ref y4, .ref y5, .int (nI go), .int (nI ak), .int (nI gn), .int (nI gf)])), (y1, .inl (cI, 9, .inl (upd K k (acK x1 x2 x3 x4)))), (y2, .inl (cI, 9, .inl (nA (updN Lm k 2))))] H := hP
                            refine lv_aload_n hx hb dX5_addCode_222 rfl (lv_at hl 3 rfl) ?_
                            refine va_get (v := .int (nI (k + 1))) hx hb hts hi_5 hown hK hP 0 rfl rfl 1 (by decide) f_36 (fun _ h => h) rfl dX5_addCode_223 ?_
                            refine lv_iconst (v := nI 1) hx hb dX5_addCode_226 ci_1 ?_
                            refine z_isub hx hb dX5_addCode_227 (by omega) ?_
                            exact mu_iret hA hQ hx hb hr hlocks (0, k + 1, nI ((k + 1) - 1), upd K k (acK x1 x2 x3 x4), updN Lm k 2) hP hS ⟨rfl, Or.inl ⟨hnb, ad_r hfl (by omega) (by omega), rfl, rfl, rfl, rfl, (by first | (rw [clen, if_neg c_203]; done) | (rw [clen, if_pos c_203, if_neg c_193]; done) | (rw [clen, if_pos (ad_4 hnb c_193), if_pos c_193]; done))⟩⟩ dX5_addCode_228
                        · refine lv_aload_n hx hb dX5_addCode_166 rfl (lv_at hl 3 rfl) ?_
                          refine lv_iconst (v := nI 2) hx hb dX5_addCode_167 ci_2 ?_
                          refine z_muV (As := [.int (nI 2)]) (rest := []) ⟨hx, hb, hml, hown, hts⟩ (c_X5_fail l D cI y0 y1 y2 y3 y4 y5 0 k n q sg rp lo ea go ak gn gf 2) (cwV 1 hts gX5_addCode_X5_fail rfl rfl rfl hd_X5_fail ⟨Nat.le_of_ble_eq_true rfl, Nat.le_of_ble_eq_true rfl⟩) ⟨hK, hE⟩ hP hD rfl hS [0] (by decide) rfl (fun _ => rfl) (va_recv hK hP (ci := 5) (q0 := 0) rfl rfl) rfl hl.1 rfl (Nat.le_of_ble_eq_true rfl) dX5_addCode_168 (Nat.zero_le _) (Nat.zero_le _) (fun v9 u9 H locs hp hP hS => ?_)
                          obtain rfl := hp
                          have hP : va_P D vwCl [(y0, .inr (5, [.int (nI 2), .int (nI k), .ref y1, .ref y2, .int (nI n), .ref y3, .int (nI q), .int (nI sg), .int rp, .int lo, .int ea, .ref y4, .ref y5, .int (nI go), .int (nI ak), .int (nI gn), .int (nI gf)])), (y1, .inl (cI, 9, .inl K)), (y2, .inl (cI, 9, .inl (nA Lm)))] H := hP
                          refine W.eq (g2 := F0 mi 171 ls [.int (nI 0)]) rfl ?_
                          exact mu_iret hA hQ hx hb hr hlocks (2, k, nI 0, K, Lm) hP hS ⟨rfl, Or.inr (Or.inr ⟨hnb, ad_q hfl (by omega) (by omega), rfl, rfl, rfl, rfl, rfl⟩)⟩ dX5_addCode_171
                      · refine lv_iload hx hb dX5_addCode_131 (lv_at hl 1 rfl) ?_
                        refine z_if_ne (tgt := 148) hx hb dX5_addCode_133 (by decide) (by omega) (fun c_133 => ?_) (fun c_133 => ?_)
                        · refine lv_iconst (v := nI 1) hx hb dX5_addCode_148 ci_1 ?_
                          refine lv_goto (tgt := 153) hx hb dX5_addCode_149 (by decide) ?_
                          refine lv_istore (lv' := [(6, .int (nI 1)), (7, .int (nI i)), (5, .int (acK x1 x2 x3 x4)), (0, .ref y0), (1, .int x1), (2, .int x2), (3, .int x3), (4, .int x4)]) hx hb dX5_addCode_153 hl (by decide) rfl (fun ls hl => ?_)
                          refine lv_iinc (v := nI (i + 1)) (lv' := [(7, .int (nI (i + 1))), (6, .int (nI 1)), (5, .int (acK x1 x2 x3 x4)), (0, .ref y0), (1, .int x1), (2, .int x2), (3, .int x3), (4, .int x4)]) hx hb dX5_addCode_155 hl (k := 1) rfl (z_inc1 _) (by decide) rfl (fun ls hl => ?_)
                          refine lv_goto (tgt := 122) hx hb dX5_addCode_158 (by decide) ?_
                          exact ih_122 (i + 1) 1 (by omega) (by decide) (by first | exact Or.inl ⟨rfl, ad_p hfl c_133⟩ | exact Or.inl ⟨rfl, Or.inr ⟨i, Nat.lt_succ_self i, c_145⟩⟩ | exact Or.inr ⟨rfl, ad_n hfl c_133 c_145⟩) (by omega) H locs ls hP hS (lv_sub hl [0, 1, 2, 3, 4, 5, 6, 7] rfl)
                        · refine lv_aload_n hx hb dX5_addCode_136 rfl (lv_at hl 3 rfl) ?_
                          refine va_get (v := .ref y1) hx hb hts hi_5 hown hK hP 0 rfl rfl 2 (by decide) f_9 (fun _ h => h) rfl dX5_addCode_137 ?_
                          refine lv_iload hx hb dX5_addCode_140 (lv_at hl 0 rfl) ?_
                          refine z_iald hx hb hK hP 1 0 rfl rfl (by omega) (by decide) dX5_addCode_142 ?_
                          refine lv_iload hx hb dX5_addCode_143 (lv_at hl 2 rfl) ?_
                          refine lv_icmp_ne (tgt := 152) hx hb dX5_addCode_145 (by decide) (fun c_145 => ?_) (fun c_145 => ?_)
                          · refine lv_iconst (v := nI 0) hx hb dX5_addCode_152 ci_0 ?_
                            refine lv_istore (lv' := [(6, .int (nI 0)), (7, .int (nI i)), (5, .int (acK x1 x2 x3 x4)), (0, .ref y0), (1, .int x1), (2, .int x2), (3, .int x3), (4, .int x4)]) hx hb dX5_addCode_153 hl (by decide) rfl (fun ls hl => ?_)
                            refine lv_iinc (v := nI (i + 1)) (lv' := [(7, .int (nI (i + 1))), (6, .int (nI 0)), (5, .int (acK x1 x2 x3 x4)), (0, .ref y0), (1, .int x1), (2, .int x2), (3, .int x3), (4, .int x4)]) hx hb dX5_addCode_155 hl (k := 1) rfl (z_inc1 _) (by decide) rfl (fun ls hl => ?_)
                            refine lv_goto (tgt := 122) hx hb dX5_addCode_158 (by decide) ?_
                            exact ih_122 (i + 1) 0 (by omega) (by decide) (by first | exact Or.inl ⟨rfl, ad_p hfl c_133⟩ | exact Or.inl ⟨rfl, Or.inr ⟨i, Nat.lt_succ_self i, c_145⟩⟩ | exact Or.inr ⟨rfl, ad_n hfl c_133 c_145⟩) (by omega) H locs ls hP hS (lv_sub hl [0, 1, 2, 3, 4, 5, 6, 7] rfl)
                          · refine lv_iconst (v := nI 1) hx hb dX5_addCode_148 ci_1 ?_
                            refine lv_goto (tgt := 153) hx hb dX5_addCode_149 (by decide) ?_
                            refine lv_istore (lv' := [(6, .int (nI 1)), (7, .int (nI i)), (5, .int (acK x1 x2 x3 x4)), (0, .ref y0), (1, .int x1), (2, .int x2), (3, .int x3), (4, .int x4)]) hx hb dX5_addCode_153 hl (by decide) rfl (fun ls hl => ?_)
                            refine lv_iinc (v := nI (i + 1)) (lv' := [(7, .int (nI (i + 1))), (6, .int (nI 1)), (5, .int (acK x1 x2 x3 x4)), (0, .ref y0), (1, .int x1), (2, .int x2), (3, .int x3), (4, .int x4)]) hx hb dX5_addCode_155 hl (k := 1) rfl (z_inc1 _) (by decide) rfl (fun ls hl => ?_)
                            refine lv_goto (tgt := 122) hx hb dX5_addCode_158 (by decide) ?_
                            exact ih_122 (i + 1) 1 (by omega) (by decide) (by first | exact Or.inl ⟨rfl, ad_p hfl c_133⟩ | exact Or.inl ⟨rfl, Or.inr ⟨i, Nat.lt_succ_self i, c_145⟩⟩ | exact Or.inr ⟨rfl, ad_n hfl c_133 c_145⟩) (by omega) H locs ls hP hS (lv_sub hl [0, 1, 2, 3, 4, 5, 6, 7] rfl)
                  exact lp_122 ((k - 0) + 1) 0 0 (Nat.zero_le _) (by decide) (by first | exact Or.inl ⟨rfl, Or.inl c_109⟩ | exact Or.inr ⟨rfl, fun z => z.elim c_109 (fun ⟨c, hc, _⟩ => absurd hc (Nat.not_lt_zero _))⟩) (Nat.lt_succ_self _) H locs ls hP hS hl
                · refine lv_iconst (v := nI 1) hx hb dX5_addCode_112 ci_1 ?_
                  refine lv_goto (tgt := 117) hx hb dX5_addCode_113 (by decide) ?_
                  refine lv_istore (lv' := [(6, .int (nI 1)), (5, .int (acK x1 x2 x3 x4)), (0, .ref y0), (1, .int x1), (2, .int x2), (3, .int x3), (4, .int x4)]) hx hb dX5_addCode_117 hl (by decide) rfl (fun ls hl => ?_)
                  refine lv_iconst (v := nI 0) hx hb dX5_addCode_119 ci_0 ?_
                  refine lv_istore (lv' := [(7, .int (nI 0)), (6, .int (nI 1)), (5, .int (acK x1 x2 x3 x4)), (0, .ref y0), (1, .int x1), (2, .int x2), (3, .int x3), (4, .int x4)]) hx hb dX5_addCode_120 hl (by decide) rfl (fun ls hl => ?_)
                  have lp_122 : ∀ (Nf : Nat) (i : Nat) (fl : Nat) (hi : i ≤ k) (hf1 : fl ≤ 1) (hfl : (fl = 1 ∧ acDm K k (acK x1 x2 x3 x4) i) ∨ (fl = 0 ∧ ¬ acDm K k (acK x1 x2 x3 x4) i)) (hN : k - i < Nf) (H : Heap) (locs : List Loc) (ls : Array Slot), va_P D vwCl [(y0, .inr (5, [.int (nI 0), .int (nI k), .ref y1, .ref y2, .int (nI n), .ref y3, .int (nI q), .int (nI sg), .int rp, .int lo, .int ea, .ref y4, .ref y5, .int (nI go), .int (nI ak), .int (nI gn), .int (nI gf)])), (y1, .inl (cI, 9, .inl K)), (y2, .inl (cI, 9, .inl (nA Lm)))] H → va_S A sv.heap H locs → lv_has ls 8 [(7, .int (nI i)), (6, .int (nI fl)), (5, .int (acK x1 x2 x3 x4)), (0, .ref y0), (1, .int x1), (2, .int x2), (3, .int x3), (4, .int x4)] → W pg l ev rm_X5_addCode sv mi ag bl mt cd H locs 0 0 Q (F0 mi 122 ls []) := by
                    intro Nf
                    induction Nf with
                    | zero =>
                      intro i fl hi hf1 hfl hN
                      exact absurd hN (Nat.not_lt_zero _)
                    | succ Nf ih_122 =>
                      intro i fl hi hf1 hfl hN H locs ls hP hS hl
                      refine lv_iload hx hb dX5_addCode_122 (lv_at hl 0 rfl) ?_
                      refine lv_aload_n hx hb dX5_addCode_124 rfl (lv_at hl 3 rfl) ?_
                      refine va_get (v := .int (nI k)) hx hb hts hi_5 hown hK hP 0 rfl rfl 1 (by decide) f_36 (fun _ h => h) rfl dX5_addCode_125 ?_
                      refine z_icmp_ge (tgt := 161) hx hb dX5_addCode_128 (by decide) (by omega) (by omega) (fun c_128 => ?_) (fun c_128 => ?_)
                      · refine lv_iload hx hb dX5_addCode_161 (lv_at hl 1 rfl) ?_
                        refine z_if_eq (tgt := 172) hx hb dX5_addCode_163 (by decide) (by omega) (fun c_163 => ?_) (fun c_163 => ?_)
                        · refine lv_aload_n hx hb dX5_addCode_172 rfl (lv_at hl 3 rfl) ?_
                          refine va_get (v := .ref y1) hx hb hts hi_5 hown hK hP 0 rfl rfl 2 (by decide) f_9 (fun _ h => h) rfl dX5_addCode_173 ?_
                          refine lv_aload_n hx hb dX5_addCode_176 rfl (lv_at hl 3 rfl) ?_
                          refine va_get (v := .int (nI k)) hx hb hts hi_5 hown hK hP 0 rfl rfl 1 (by decide) f_36 (fun _ h => h) rfl dX5_addCode_177 ?_
                          refine lv_iload hx hb dX5_addCode_180 (lv_at hl 2 rfl) ?_
                          refine z_iast hx hb hK hP hD rfl hS 1 0 rfl rfl (by omega) (by decide) dX5_addCode_182 (fun H locs hP hS => ?_)
                          have hP : va_P D vwCl [(y0, .inr (5, [.int (nI 0), .int (nI k), .ref y1, .ref y2, .int (nI n), .ref y3, .int (nI q), .int (nI sg), .int rp, .int lo, .int ea, .ref y4, .ref y5, .int (nI go), .int (nI ak), .int (nI gn), .int (nI gf)])), (y1, .inl (cI, 9, .inl (upd K k (acK x1 x2 x3 x4)))), (y2, .inl (cI, 9, .inl (nA Lm)))] H := hP
                          refine lv_aload_n hx hb dX5_addCode_183 rfl (lv_at hl 3 rfl) ?_
                          refine va_get (v := .ref y2) hx hb hts hi_5 hown hK hP 0 rfl rfl 3 (by decide) f_13 (fun _ h => h) rfl dX5_addCode_184 ?_
                          refine lv_aload_n hx hb dX5_addCode_187 rfl (lv_at hl 3 rfl) ?_
                          refine va_get (v := .int (nI k)) hx hb hts hi_5 hown hK hP 0 rfl rfl 1 (by decide) f_36 (fun _ h => h) rfl dX5_addCode_188 ?_
                          refine lv_iload_n hx hb dX5_addCode_191 rfl (lv_at hl 6 rfl) ?_
                          refine lv_iconst (v := -1) hx hb dX5_addCode_192 ci_m1 ?_
                          refine lv_icmp_ne (tgt := 200) hx hb dX5_addCode_193 (by decide) (fun c_193 => ?_) (fun c_193 => ?_)
                          · refine lv_iload hx hb dX5_addCode_200 (lv_at hl 7 rfl) ?_
                            refine lv_iconst (v := -1) hx hb dX5_addCode_202 ci_m1 ?_
                            refine lv_icmp_ne (tgt := 210) hx hb dX5_addCode_203 (by decide) (fun c_203 => ?_) (fun c_203 => ?_)
                            · refine lv_iconst (v := nI 4) hx hb dX5_addCode_210 ci_4 ?_
                              refine z_iastN hx hb hK hP hD rfl hS 2 0 rfl rfl (by omega) (by decide) dX5_addCode_211 (fun H locs hP hS => ?_)
                              have hP : va_P D vwCl [(y0, .inr (5, [.int (nI 0), .int (nI k), .ref y1, .ref y2, .int (nI n), .ref y3, .int (nI q), .int (nI sg), .int rp, .int lo, .int ea, .ref y4, .ref y5, .int (nI go), .int (nI ak), .int (nI gn), .int (nI gf)])), (y1, .inl (cI, 9, .inl (upd K k (acK x1 x2 x3 x4)))), (y2, .inl (cI, 9, .inl (nA (updN Lm k 4))))] H := hP
                              refine lv_aload_n hx hb dX5_addCode_212 rfl (lv_at hl 3 rfl) ?_
                              refine lv_dup hx hb dX5_addCode_213 rfl ?_
                              refine va_get (v := .int (nI k)) hx hb hts hi_5 hown hK hP 0 rfl rfl 1 (by decide) f_36 (fun _ h => h) rfl dX5_addCode_214 ?_
                              refine lv_iconst (v := nI 1) hx hb dX5_addCode_217 ci_1 ?_
                              refine z_iadd hx hb dX5_addCode_218 ?_
                              refine z_put hx hb hts hi_5 tyX5 tyX5_ok nmX5 hown hK hP hD rfl hS 0 rfl rfl 1 (by decide) f_36 (fun _ h => h) rfl (by decide +kernel) (Nat.le_of_ble_eq_true rfl) dX5_addCode_219 (fun H locs hP hS => ?_)
                              have hP : va_P D vwCl [(y0, .inr (5, [.int (nI 0), .int (nI (k + 1)), .ref y1, .ref y2, .int (nI n), .ref y3, .int (nI q), .int (nI sg), .int rp, .int lo, .int ea, .ref y4, .ref y5, .int (nI go), .int (nI ak), .int (nI gn), .int (nI gf)])), (y1, .inl (cI, 9, .inl (upd K k (acK x1 x2 x3 x4)))), (y2, .inl (cI, 9, .inl (nA (updN Lm k 4))))] H := hP
                              refine lv_aload_n hx hb dX5_addCode_222 rfl (lv_at hl 3 rfl) ?_
                              refine va_get (v := .int (nI (k + 1))) hx hb hts hi_5 hown hK hP 0 rfl rfl 1 (by decide) f_36 (fun _ h => h) rfl dX5_addCode_223 ?_
                              refine lv_iconst (v := nI 1) hx hb dX5_addCode_226 ci_1 ?_
                              refine z_isub hx hb dX5_addCode_227 (by omega) ?_
                              exact mu_iret hA hQ hx hb hr hlocks (0, k + 1, nI ((k + 1) - 1), upd K k (acK x1 x2 x3 x4), updN Lm k 4) hP hS ⟨rfl, Or.inl ⟨hnb, ad_r hfl (by omega) (by omega), rfl, rfl, rfl, rfl, (by first | (rw [clen, if_neg c_203]; done) | (rw [clen, if_pos c_203, if_neg c_193]; done) | (rw [clen, if_pos (ad_4 hnb c_193), if_pos c_193]; done))⟩⟩ dX5_addCode_228
                            · refine lv_iconst (v := nI 3) hx hb dX5_addCode_206 ci_3 ?_
                              refine lv_goto (tgt := 211) hx hb dX5_addCode_207 (by decide) ?_
                              refine z_iastN hx hb hK hP hD rfl hS 2 0 rfl rfl (by omega) (by decide) dX5_addCode_211 (fun H locs hP hS => ?_)
                              have hP : va_P D vwCl [(y0, .inr (5, [.int (nI 0), .int (nI k), .ref y1, .ref y2, .int (nI n), .ref y3, .int (nI q), .int (nI sg), .int rp, .int lo, .int ea, .ref y4, .ref y5, .int (nI go), .int (nI ak), .int (nI gn), .int (nI gf)])), (y1, .inl (cI, 9, .inl (upd K k (acK x1 x2 x3 x4)))), (y2, .inl (cI, 9, .inl (nA (updN Lm k 3))))] H := hP
                              refine lv_aload_n hx hb dX5_addCode_212 rfl (lv_at hl 3 rfl) ?_
                              refine lv_dup hx hb dX5_addCode_213 rfl ?_
                              refine va_get (v := .int (nI k)) hx hb hts hi_5 hown hK hP 0 rfl rfl 1 (by decide) f_36 (fun _ h => h) rfl dX5_addCode_214 ?_
                              refine lv_iconst (v := nI 1) hx hb dX5_addCode_217 ci_1 ?_
                              refine z_iadd hx hb dX5_addCode_218 ?_
                              refine z_put hx hb hts hi_5 tyX5 tyX5_ok nmX5 hown hK hP hD rfl hS 0 rfl rfl 1 (by decide) f_36 (fun _ h => h) rfl (by decide +kernel) (Nat.le_of_ble_eq_true rfl) dX5_addCode_219 (fun H locs hP hS => ?_)
                              have hP : va_P D vwCl [(y0, .inr (5, [.int (nI 0), .int (nI (k + 1)), .ref y1, .ref y2, .int (nI n), .ref y3, .int (nI q), .int (nI sg), .int rp, .int lo, .int ea, .ref y4, .ref y5, .int (nI go), .int (nI ak), .int (nI gn), .int (nI gf)])), (y1, .inl (cI, 9, .inl (upd K k (acK x1 x2 x3 x4)))), (y2, .inl (cI, 9, .inl (nA (updN Lm k 3))))] H := hP
                              refine lv_aload_n hx hb dX5_addCode_222 rfl (lv_at hl 3 rfl) ?_
                              refine va_get (v := .int (nI (k + 1))) hx hb hts hi_5 hown hK hP 0 rfl rfl 1 (by decide) f_36 (fun _ h => h) rfl dX5_addCode_223 ?_
                              refine lv_iconst (v := nI 1) hx hb dX5_addCode_226 ci_1 ?_
                              refine z_isub hx hb dX5_addCode_227 (by omega) ?_
                              exact mu_iret hA hQ hx hb hr hlocks (0, k + 1, nI ((k + 1) - 1), upd K k (acK x1 x2 x3 x4), updN Lm k 3) hP hS ⟨rfl, Or.inl ⟨hnb, ad_r hfl (by omega) (by omega), rfl, rfl, rfl, rfl, (by first | (rw [clen, if_neg c_203]; done) | (rw [clen, if_pos c_203, if_neg c_193]; done) | (rw [clen, if_pos (ad_4 hnb c_193), if_pos c_193]; done))⟩⟩ dX5_addCode_228
                          · refine lv_iconst (v := nI 2) hx hb dX5_addCode_196 ci_2 ?_
                            refine lv_goto (tgt := 211) hx hb dX5_addCode_197 (by decide) ?_
                            refine z_iastN hx hb hK hP hD rfl hS 2 0 rfl rfl (by omega) (by decide) dX5_addCode_211 (fun H locs hP hS => ?_)
                            have hP : va_P D vwCl [(y0, .inr (5, [.int (nI 0), .int (nI k), .ref y1, .ref y2, .int (nI n), .ref y3, .int (nI q), .int (nI sg), .int rp, .int lo, .int ea, .ref y4, .ref y5, .int (nI go), .int (nI ak), .int (nI gn), .int (nI gf)])), (y1, .inl (cI, 9, .inl (upd K k (acK x1 x2 x3 x4)))), (y2, .inl (cI, 9, .inl (nA (updN Lm k 2))))] H := hP
                            refine lv_aload_n hx hb dX5_addCode_212 rfl (lv_at hl 3 rfl) ?_
                            refine lv_dup hx hb dX5_addCode_213 rfl ?_
                            refine va_get (v := .int (nI k)) hx hb hts hi_5 hown hK hP 0 rfl rfl 1 (by decide) f_36 (fun _ h => h) rfl dX5_addCode_214 ?_
                            refine lv_iconst (v := nI 1) hx hb dX5_addCode_217 ci_1 ?_
                            refine z_iadd hx hb dX5_addCode_218 ?_
                            refine z_put hx hb hts hi_5 tyX5 tyX5_ok nmX5 hown hK hP hD rfl hS 0 rfl rfl 1 (by decide) f_36 (fun _ h => h) rfl (by decide +kernel) (Nat.le_of_ble_eq_true rfl) dX5_addCode_219 (fun H locs hP hS => ?_)
                            have hP : va_P D vwCl [(y0, .inr (5, [.int (nI 0), .int (nI (k + 1)), .ref y1, .ref y2, .int (nI n), .ref y3, .int (nI q), .int (nI sg), .int rp, .int lo, .int ea, .ref y4, .ref y5, .int (nI go), .int (nI ak), .int (nI gn), .int (nI gf)])), (y1, .inl (cI, 9, .inl (upd K k (acK x1 x2 x3 x4)))), (y2, .inl (cI, 9, .inl (nA (updN Lm k 2))))] H := hP
                            refine lv_aload_n hx hb dX5_addCode_222 rfl (lv_at hl 3 rfl) ?_
                            refine va_get (v := .int (nI (k + 1))) hx hb hts hi_5 hown hK hP 0 rfl rfl 1 (by decide) f_36 (fun _ h => h) rfl dX5_addCode_223 ?_
                            refine lv_iconst (v := nI 1) hx hb dX5_addCode_226 ci_1 ?_
                            refine z_isub hx hb dX5_addCode_227 (by omega) ?_
                            exact mu_iret hA hQ hx hb hr hlocks (0, k + 1, nI ((k + 1) - 1), upd K k (acK x1 x2 x3 x4), updN Lm k 2) hP hS ⟨rfl, Or.inl ⟨hnb, ad_r hfl (by omega) (by omega), rfl, rfl, rfl, rfl, (by first | (rw [clen, if_neg c_203]; done) | (rw [clen, if_pos c_203, if_neg c_193]; done) | (rw [clen, if_pos (ad_4 hnb c_193), if_pos c_193]; done))⟩⟩ dX5_addCode_228
                        · refine lv_aload_n hx hb dX5_addCode_166 rfl (lv_at hl 3 rfl) ?_
                          refine lv_iconst (v := nI 2) hx hb dX5_addCode_167 ci_2 ?_
                          refine z_muV (As := [.int (nI 2)]) (rest := []) ⟨hx, hb, hml, hown, hts⟩ (c_X5_fail l D cI y0 y1 y2 y3 y4 y5 0 k n q sg rp lo ea go ak gn gf 2) (cwV 1 hts gX5_addCode_X5_fail rfl rfl rfl hd_X5_fail ⟨Nat.le_of_ble_eq_true rfl, Nat.le_of_ble_eq_true rfl⟩) ⟨hK, hE⟩ hP hD rfl hS [0] (by decide) rfl (fun _ => rfl) (va_recv hK hP (ci := 5) (q0 := 0) rfl rfl) rfl hl.1 rfl (Nat.le_of_ble_eq_true rfl) dX5_addCode_168 (Nat.zero_le _) (Nat.zero_le _) (fun v9 u9 H locs hp hP hS => ?_)
                          obtain rfl := hp
                          have hP : va_P D vwCl [(y0, .inr (5, [.int (nI 2), .int (nI k), .ref y1, .ref y2, .int (nI n), .ref y3, .int (nI q), .int (nI sg), .int rp, .int lo, .int ea, .ref y4, .ref y5, .int (nI go), .int (nI ak), .int (nI gn), .int (nI gf)])), (y1, .inl (cI, 9, .inl K)), (y2, .inl (cI, 9, .inl (nA Lm)))] H := hP
                          refine W.eq (g2 := F0 mi 171 ls [.int (nI 0)]) rfl ?_
                          exact mu_iret hA hQ hx hb hr hlocks (2, k, nI 0, K, Lm) hP hS ⟨rfl, Or.inr (Or.inr ⟨hnb, ad_q hfl (by omega) (by omega), rfl, rfl, rfl, rfl, rfl⟩)⟩ dX5_addCode_171
                      · refine lv_iload hx hb dX5_addCode_131 (lv_at hl 1 rfl) ?_
                        refine z_if_ne (tgt := 148) hx hb dX5_addCode_133 (by decide) (by omega) (fun c_133 => ?_) (fun c_133 => ?_)
                        · refine lv_iconst (v := nI 1) hx hb dX5_addCode_148 ci_1 ?_
                          refine lv_goto (tgt := 153) hx hb dX5_addCode_149 (by decide) ?_
                          refine lv_istore (lv' := [(6, .int (nI 1)), (7, .int (nI i)), (5, .int (acK x1 x2 x3 x4)), (0, .ref y0), (1, .int x1), (2, .int x2), (3, .int x3), (4, .int x4)]) hx hb dX5_addCode_153 hl (by decide) rfl (fun ls hl => ?_)
                          refine lv_iinc (v := nI (i + 1)) (lv' := [(7, .int (nI (i + 1))), (6, .int (nI 1)), (5, .int (acK x1 x2 x3 x4)), (0, .ref y0), (1, .int x1), (2, .int x2), (3, .int x3), (4, .int x4)]) hx hb dX5_addCode_155 hl (k := 1) rfl (z_inc1 _) (by decide) rfl (fun ls hl => ?_)
                          refine lv_goto (tgt := 122) hx hb dX5_addCode_158 (by decide) ?_
                          exact ih_122 (i + 1) 1 (by omega) (by decide) (by first | exact Or.inl ⟨rfl, ad_p hfl c_133⟩ | exact Or.inl ⟨rfl, Or.inr ⟨i, Nat.lt_succ_self i, c_145⟩⟩ | exact Or.inr ⟨rfl, ad_n hfl c_133 c_145⟩) (by omega) H locs ls hP hS (lv_sub hl [0, 1, 2, 3, 4, 5, 6, 7] rfl)
                        · refine lv_aload_n hx hb dX5_addCode_136 rfl (lv_at hl 3 rfl) ?_
                          refine va_get (v := .ref y1) hx hb hts hi_5 hown hK hP 0 rfl rfl 2 (by decide) f_9 (fun _ h => h) rfl dX5_addCode_137 ?_
                          refine lv_iload hx hb dX5_addCode_140 (lv_at hl 0 rfl) ?_
                          refine z_iald hx hb hK hP 1 0 rfl rfl (by omega) (by decide) dX5_addCode_142 ?_
                          refine lv_iload hx hb dX5_addCode_143 (lv_at hl 2 rfl) ?_
                          refine lv_icmp_ne (tgt := 152) hx hb dX5_addCode_145 (by decide) (fun c_145 => ?_) (fun c_145 => ?_)
                          · refine lv_iconst (v := nI 0) hx hb dX5_addCode_152 ci_0 ?_
                            refine lv_istore (lv' := [(6, .int (nI 0)), (7, .int (nI i)), (5, .int (acK x1 x2 x3 x4)), (0, .ref y0), (1, .int x1), (2, .int x2), (3, .int x3), (4, .int x4)]) hx hb dX5_addCode_153 hl (by decide) rfl (fun ls hl => ?_)
                            refine lv_iinc (v := nI (i + 1)) (lv' := [(7, .int (nI (i + 1))), (6, .int (nI 0)), (5, .int (acK x1 x2 x3 x4)), (0, .ref y0), (1, .int x1), (2, .int x2), (3, .int x3), (4, .int x4)]) hx hb dX5_addCode_155 hl (k := 1) rfl (z_inc1 _) (by decide) rfl (fun ls hl => ?_)
                            refine lv_goto (tgt := 122) hx hb dX5_addCode_158 (by decide) ?_
                            exact ih_122 (i + 1) 0 (by omega) (by decide) (by first | exact Or.inl ⟨rfl, ad_p hfl c_133⟩ | exact Or.inl ⟨rfl, Or.inr ⟨i, Nat.lt_succ_self i, c_145⟩⟩ | exact Or.inr ⟨rfl, ad_n hfl c_133 c_145⟩) (by omega) H locs ls hP hS (lv_sub hl [0, 1, 2, 3, 4, 5, 6, 7] rfl)
                          · refine lv_iconst (v := nI 1) hx hb dX5_addCode_148 ci_1 ?_
                            refine lv_goto (tgt := 153) hx hb dX5_addCode_149 (by decide) ?_
                            refine lv_istore (lv' := [(6, .int (nI 1)), (7, .int (nI i)), (5, .int (acK x1 x2 x3 x4)), (0, .ref y0), (1, .int x1), (2, .int x2), (3, .int x3), (4, .int x4)]) hx hb dX5_addCode_153 hl (by decide) rfl (fun ls hl => ?_)
                            refine lv_iinc (v := nI (i + 1)) (lv' := [(7, .int (nI (i + 1))), (6, .int (nI 1)), (5, .int (acK x1 x2 x3 x4)), (0, .ref y0), (1, .int x1), (2, .int x2), (3, .int x3), (4, .int x4)]) hx hb dX5_addCode_155 hl (k := 1) rfl (z_inc1 _) (by decide) rfl (fun ls hl => ?_)
                            refine lv_goto (tgt := 122) hx hb dX5_addCode_158 (by decide) ?_
                            exact ih_122 (i + 1) 1 (by omega) (by decide) (by first | exact Or.inl ⟨rfl, ad_p hfl c_133⟩ | exact Or.inl ⟨rfl, Or.inr ⟨i, Nat.lt_succ_self i, c_145⟩⟩ | exact Or.inr ⟨rfl, ad_n hfl c_133 c_145⟩) (by omega) H locs ls hP hS (lv_sub hl [0, 1, 2, 3, 4, 5, 6, 7] rfl)
                  exact lp_122 ((k - 0) + 1) 0 1 (Nat.zero_le _) (by decide) (by first | exact Or.inl ⟨rfl, Or.inl c_109⟩ | exact Or.inr ⟨rfl, fun z => z.elim c_109 (fun ⟨c, hc, _⟩ => absurd hc (Nat.not_lt_zero _))⟩) (Nat.lt_succ_self _) H locs ls hP hS hl
              · refine z_bipush (n := 11) hx hb rfl (by decide) dX5_addCode_91 ?_
                refine lv_iload hx hb dX5_addCode_93 (lv_at hl 0 rfl) ?_
                refine lv_imul hx hb dX5_addCode_95 ?_
                refine lv_iload hx hb dX5_addCode_96 (lv_at hl 5 rfl) ?_
                refine lv_iadd hx hb dX5_addCode_98 ?_
                refine lv_iconst (v := nI 1) hx hb dX5_addCode_99 ci_1 ?_
                refine lv_iadd hx hb dX5_addCode_100 ?_
                refine lv_istore (lv' := [(5, .int ((((nI 11) * (acN (ac2 x1 x2) x3)) + x4) + (nI 1))), (0, .ref y0), (1, .int x1), (2, .int x2), (3, .int x3), (4, .int x4)]) hx hb dX5_addCode_101 hl (by decide) rfl (fun ls hl => ?_)
                rw [show (((nI 11) * (acN (ac2 x1 x2) x3)) + x4) + (nI 1) = acK x1 x2 x3 x4 from (by unfold acK; conv => { rhs; unfold acN }; first | exact (if_pos c_88).symm | exact (if_neg c_88).symm)] at hl
                refine lv_aload_n hx hb dX5_addCode_103 rfl (lv_at hl 1 rfl) ?_
                refine va_get (v := .int (nI k)) hx hb hts hi_5 hown hK hP 0 rfl rfl 1 (by decide) f_36 (fun _ h => h) rfl dX5_addCode_104 ?_
                refine z_bipush (n := 8) hx hb rfl (by decide) dX5_addCode_107 ?_
                refine z_icmp_ne (tgt := 116) hx hb dX5_addCode_109 (by decide) (by omega) (by omega) (fun c_109 => ?_) (fun c_109 => ?_)
                · refine lv_iconst (v := nI 0) hx hb dX5_addCode_116 ci_0 ?_
                  refine lv_istore (lv' := [(6, .int (nI 0)), (5, .int (acK x1 x2 x3 x4)), (0, .ref y0), (1, .int x1), (2, .int x2), (3, .int x3), (4, .int x4)]) hx hb dX5_addCode_117 hl (by decide) rfl (fun ls hl => ?_)
                  refine lv_iconst (v := nI 0) hx hb dX5_addCode_119 ci_0 ?_
                  refine lv_istore (lv' := [(7, .int (nI 0)), (6, .int (nI 0)), (5, .int (acK x1 x2 x3 x4)), (0, .ref y0), (1, .int x1), (2, .int x2), (3, .int x3), (4, .int x4)]) hx hb dX5_addCode_120 hl (by decide) rfl (fun ls hl => ?_)
                  have lp_122 : ∀ (Nf : Nat) (i : Nat) (fl : Nat) (hi : i ≤ k) (hf1 : fl ≤ 1) (hfl : (fl = 1 ∧ acDm K k (acK x1 x2 x3 x4) i) ∨ (fl = 0 ∧ ¬ acDm K k (acK x1 x2 x3 x4) i)) (hN : k - i < Nf) (H : Heap) (locs : List Loc) (ls : Array Slot), va_P D vwCl [(y0, .inr (5, [.int (nI 0), .int (nI k), .ref y1, .ref y2, .int (nI n), .ref y3, .int (nI q), .int (nI sg), .int rp, .int lo, .int ea, .ref y4, .ref y5, .int (nI go), .int (nI ak), .int (nI gn), .int (nI gf)])), (y1, .inl (cI, 9, .inl K)), (y2, .inl (cI, 9, .inl (nA Lm)))] H → va_S A sv.heap H locs → lv_has ls 8 [(7, .int (nI i)), (6, .int (nI fl)), (5, .int (acK x1 x2 x3 x4)), (0, .ref y0), (1, .int x1), (2, .int x2), (3, .int x3), (4, .int x4)] → W pg l ev rm_X5_addCode sv mi ag bl mt cd H locs 0 0 Q (F0 mi 122 ls []) := by
                    intro Nf
                    induction Nf with
                    | zero =>
                      intro i fl hi hf1 hfl hN
                      exact absurd hN (Nat.not_lt_zero _)
                    | succ Nf ih_122 =>
                      intro i fl hi hf1 hfl hN H locs ls hP hS hl
                      refine lv_iload hx hb dX5_addCode_122 (lv_at hl 0 rfl) ?_
                      refine lv_aload_n hx hb dX5_addCode_124 rfl (lv_at hl 3 rfl) ?_
                      refine va_get (v := .int (nI k)) hx hb hts hi_5 hown hK hP 0 rfl rfl 1 (by decide) f_36 (fun _ h => h) rfl dX5_addCode_125 ?_
                      refine z_icmp_ge (tgt := 161) hx hb dX5_addCode_128 (by decide) (by omega) (by omega) (fun c_128 => ?_) (fun c_128 => ?_)
                      · refine lv_iload hx hb dX5_addCode_161 (lv_at hl 1 rfl) ?_
                        refine z_if_eq (tgt := 172) hx hb dX5_addCode_163 (by decide) (by omega) (fun c_163 => ?_) (fun c_163 => ?_)
                        · refine lv_aload_n hx hb dX5_addCode_172 rfl (lv_at hl 3 rfl) ?_
                          refine va_get (v := .ref y1) hx hb hts hi_5 hown hK hP 0 rfl rfl 2 (by decide) f_9 (fun _ h => h) rfl dX5_addCode_173 ?_
                          refine lv_aload_n hx hb dX5_addCode_176 rfl (lv_at hl 3 rfl) ?_
                          refine va_get (v := .int (nI k)) hx hb hts hi_5 hown hK hP 0 rfl rfl 1 (by decide) f_36 (fun _ h => h) rfl dX5_addCode_177 ?_
                          refine lv_iload hx hb dX5_addCode_180 (lv_at hl 2 rfl) ?_
                          refine z_iast hx hb hK hP hD rfl hS 1 0 rfl rfl (by omega) (by decide) dX5_addCode_182 (fun H locs hP hS => ?_)
                          have hP : va_P D vwCl [(y0, .inr (5, [.int (nI 0), .int (nI k), .ref y1, .ref y2, .int (nI n), .ref y3, .int (nI q), .int (nI sg), .int rp, .int lo, .int ea, .ref y4, .ref y5, .int (nI go), .int (nI ak), .int (nI gn), .int (nI gf)])), (y1, .inl (cI, 9, .inl (upd K k (acK x1 x2 x3 x4)))), (y2, .inl (cI, 9, .inl (nA Lm)))] H := hP
                          refine lv_aload_n hx hb dX5_addCode_183 rfl (lv_at hl 3 rfl) ?_
                          refine va_get (v := .ref y2) hx hb hts hi_5 hown hK hP 0 rfl rfl 3 (by decide) f_13 (fun _ h => h) rfl dX5_addCode_184 ?_
                          refine lv_aload_n hx hb dX5_addCode_187 rfl (lv_at hl 3 rfl) ?_
                          refine va_get (v := .int (nI k)) hx hb hts hi_5 hown hK hP 0 rfl rfl 1 (by decide) f_36 (fun _ h => h) rfl dX5_addCode_188 ?_
                          refine lv_iload_n hx hb dX5_addCode_191 rfl (lv_at hl 6 rfl) ?_
                          refine lv_iconst (v := -1) hx hb dX5_addCode_192 ci_m1 ?_
                          refine lv_icmp_ne (tgt := 200) hx hb dX5_addCode_193 (by decide) (fun c_193 => ?_) (fun c_193 => ?_)
                          · refine lv_iload hx hb dX5_addCode_200 (lv_at hl 7 rfl) ?_
                            refine lv_iconst (v := -1) hx hb dX5_addCode_202 ci_m1 ?_
                            refine lv_icmp_ne (tgt := 210) hx hb dX5_addCode_203 (by decide) (fun c_203 => ?_) (fun c_203 => ?_)
                            · refine lv_iconst (v := nI 4) hx hb dX5_addCode_210 ci_4 ?_
                              refine z_iastN hx hb hK hP hD rfl hS 2 0 rfl rfl (by omega) (by decide) dX5_addCode_211 (fun H locs hP hS => ?_)
                              have hP : va_P D vwCl [(y0, .inr (5, [.int (nI 0), .int (nI k), .ref y1, .ref y2, .int (nI n), .ref y3, .int (nI q), .int (nI sg), .int rp, .int lo, .int ea, .ref y4, .ref y5, .int (nI go), .int (nI ak), .int (nI gn), .int (nI gf)])), (y1, .inl (cI, 9, .inl (upd K k (acK x1 x2 x3 x4)))), (y2, .inl (cI, 9, .inl (nA (updN Lm k 4))))] H := hP
                              refine lv_aload_n hx hb dX5_addCode_212 rfl (lv_at hl 3 rfl) ?_
                              refine lv_dup hx hb dX5_addCode_213 rfl ?_
                              refine va_get (v := .int (nI k)) hx hb hts hi_5 hown hK hP 0 rfl rfl 1 (by decide) f_36 (fun _ h => h) rfl dX5_addCode_214 ?_
                              refine lv_iconst (v := nI 1) hx hb dX5_addCode_217 ci_1 ?_
                              refine z_iadd hx hb dX5_addCode_218 ?_
                              refine z_put hx hb hts hi_5 tyX5 tyX5_ok nmX5 hown hK hP hD rfl hS 0 rfl rfl 1 (by decide) f_36 (fun _ h => h) rfl (by decide +kernel) (Nat.le_of_ble_eq_true rfl) dX5_addCode_219 (fun H locs hP hS => ?_)
                              have hP : va_P D vwCl [(y0, .inr (5, [.int (nI 0), .int (nI (k + 1)), .ref y1, .ref y2, .int (nI n), .ref y3, .int (nI q), .int (nI sg), .int rp, .int lo, .int ea, .ref y4, .ref y5, .int (nI go), .int (nI ak), .int (nI gn), .int (nI gf)])), (y1, .inl (cI, 9, .inl (upd K k (acK x1 x2 x3 x4)))), (y2, .inl (cI, 9, .inl (nA (updN Lm k 4))))] H := hP
                              refine lv_aload_n hx hb dX5_addCode_222 rfl (lv_at hl 3 rfl) ?_
                              refine va_get (v := .int (nI (k + 1))) hx hb hts hi_5 hown hK hP 0 rfl rfl 1 (by decide) f_36 (fun _ h => h) rfl dX5_addCode_223 ?_
                              refine lv_iconst (v := nI 1) hx hb dX5_addCode_226 ci_1 ?_
                              refine z_isub hx hb dX5_addCode_227 (by omega) ?_
                              exact mu_iret hA hQ hx hb hr hlocks (0, k + 1, nI ((k + 1) - 1), upd K k (acK x1 x2 x3 x4), updN Lm k 4) hP hS ⟨rfl, Or.inl ⟨hnb, ad_r hfl (by omega) (by omega), rfl, rfl, rfl, rfl, (by first | (rw [clen, if_neg c_203]; done) | (rw [clen, if_pos c_203, if_neg c_193]; done) | (rw [clen, if_pos (ad_4 hnb c_193), if_pos c_193]; done))⟩⟩ dX5_addCode_228
                            · refine lv_iconst (v := nI 3) hx hb dX5_addCode_206 ci_3 ?_
                              refine lv_goto (tgt := 211) hx hb dX5_addCode_207 (by decide) ?_
                              refine z_iastN hx hb hK hP hD rfl hS 2 0 rfl rfl (by omega) (by decide) dX5_addCode_211 (fun H locs hP hS => ?_)
                              have hP : va_P D vwCl [(y0, .inr (5, [.int (nI 0), .int (nI k), .ref y1, .ref y2, .int (nI n), .ref y3, .int (nI q), .int (nI sg), .int rp, .int lo, .int ea, .ref y4, .ref y5, .int (nI go), .int (nI ak), .int (nI gn), .int (nI gf)])), (y1, .inl (cI, 9, .inl (upd K k (acK x1 x2 x3 x4)))), (y2, .inl (cI, 9, .inl (nA (updN Lm k 3))))] H := hP
                              refine lv_aload_n hx hb dX5_addCode_212 rfl (lv_at hl 3 rfl) ?_
                              refine lv_dup hx hb dX5_addCode_213 rfl ?_
                              refine va_get (v := .int (nI k)) hx hb hts hi_5 hown hK hP 0 rfl rfl 1 (by decide) f_36 (fun _ h => h) rfl dX5_addCode_214 ?_
                              refine lv_iconst (v := nI 1) hx hb dX5_addCode_217 ci_1 ?_
                              refine z_iadd hx hb dX5_addCode_218 ?_
                              refine z_put hx hb hts hi_5 tyX5 tyX5_ok nmX5 hown hK hP hD rfl hS 0 rfl rfl 1 (by decide) f_36 (fun _ h => h) rfl (by decide +kernel) (Nat.le_of_ble_eq_true rfl) dX5_addCode_219 (fun H locs hP hS => ?_)
                              have hP : va_P D vwCl [(y0, .inr (5, [.int (nI 0), .int (nI (k + 1)), .ref y1, .ref y2, .int (nI n), .ref y3, .int (nI q), .int (nI sg), .int rp, .int lo, .int ea, .ref y4, .ref y5, .int (nI go), .int (nI ak), .int (nI gn), .int (nI gf)])), (y1, .inl (cI, 9, .inl (upd K k (acK x1 x2 x3 x4)))), (y2, .inl (cI, 9, .inl (nA (updN Lm k 3))))] H := hP
                              refine lv_aload_n hx hb dX5_addCode_222 rfl (lv_at hl 3 rfl) ?_
                              refine va_get (v := .int (nI (k + 1))) hx hb hts hi_5 hown hK hP 0 rfl rfl 1 (by decide) f_36 (fun _ h => h) rfl dX5_addCode_223 ?_
                              refine lv_iconst (v := nI 1) hx hb dX5_addCode_226 ci_1 ?_
                              refine z_isub hx hb dX5_addCode_227 (by omega) ?_
                              exact mu_iret hA hQ hx hb hr hlocks (0, k + 1, nI ((k + 1) - 1), upd K k (acK x1 x2 x3 x4), updN Lm k 3) hP hS ⟨rfl, Or.inl ⟨hnb, ad_r hfl (by omega) (by omega), rfl, rfl, rfl, rfl, (by first | (rw [clen, if_neg c_203]; done) | (rw [clen, if_pos c_203, if_neg c_193]; done) | (rw [clen, if_pos (ad_4 hnb c_193), if_pos c_193]; done))⟩⟩ dX5_addCode_228
                          · refine lv_iconst (v := nI 2) hx hb dX5_addCode_196 ci_2 ?_
                            refine lv_goto (tgt := 211) hx hb dX5_addCode_197 (by decide) ?_
                            refine z_iastN hx hb hK hP hD rfl hS 2 0 rfl rfl (by omega) (by decide) dX5_addCode_211 (fun H locs hP hS => ?_)
                            have hP : va_P D vwCl [(y0, .inr (5, [.int (nI 0), .int (nI k), .ref y1, .ref y2, .int (nI n), .ref y3, .int (nI q), .int (nI sg), .int rp, .int lo, .int ea, .ref y4, .ref y5, .int (nI go), .int (nI ak), .int (nI gn), .int (nI gf)])), (y1, .inl (cI, 9, .inl (upd K k (acK x1 x2 x3 x4)))), (y2, .inl (cI, 9, .inl (nA (updN Lm k 2))))] H := hP
                            refine lv_aload_n hx hb dX5_addCode_212 rfl (lv_at hl 3 rfl) ?_
                            refine lv_dup hx hb dX5_addCode_213 rfl ?_
                            refine va_get (v := .int (nI k)) hx hb hts hi_5 hown hK hP 0 rfl rfl 1 (by decide) f_36 (fun _ h => h) rfl dX5_addCode_214 ?_
                            refine lv_iconst (v := nI 1) hx hb dX5_addCode_217 ci_1 ?_
                            refine z_iadd hx hb dX5_addCode_218 ?_
                            refine z_put hx hb hts hi_5 tyX5 tyX5_ok nmX5 hown hK hP hD rfl hS 0 rfl rfl 1 (by decide) f_36 (fun _ h => h) rfl (by decide +kernel) (Nat.le_of_ble_eq_true rfl) dX5_addCode_219 (fun H locs hP hS => ?_)
                            have hP : va_P D vwCl [(y0, .inr (5, [.int (nI 0), .int (nI (k + 1)), .ref y1, .ref y2, .int (nI n), .ref y3, .int (nI q), .int (nI sg), .int rp, .int lo, .int ea, .ref y4, .ref y5, .int (nI go), .int (nI ak), .int (nI gn), .int (nI gf)])), (y1, .inl (cI, 9, .inl (upd K k (acK x1 x2 x3 x4)))), (y2, .inl (cI, 9, .inl (nA (updN Lm k 2))))] H := hP
                            refine lv_aload_n hx hb dX5_addCode_222 rfl (lv_at hl 3 rfl) ?_
                            refine va_get (v := .int (nI (k + 1))) hx hb hts hi_5 hown hK hP 0 rfl rfl 1 (by decide) f_36 (fun _ h => h) rfl dX5_addCode_223 ?_
                            refine lv_iconst (v := nI 1) hx hb dX5_addCode_226 ci_1 ?_
                            refine z_isub hx hb dX5_addCode_227 (by omega) ?_
                            exact mu_iret hA hQ hx hb hr hlocks (0, k + 1, nI ((k + 1) - 1), upd K k (acK x1 x2 x3 x4), updN Lm k 2) hP hS ⟨rfl, Or.inl ⟨hnb, ad_r hfl (by omega) (by omega), rfl, rfl, rfl, rfl, (by first | (rw [clen, if_neg c_203]; done) | (rw [clen, if_pos c_203, if_neg c_193]; done) | (rw [clen, if_pos (ad_4 hnb c_193), if_pos c_193]; done))⟩⟩ dX5_addCode_228
                        · refine lv_aload_n hx hb dX5_addCode_166 rfl (lv_at hl 3 rfl) ?_
                          refine lv_iconst (v := nI 2) hx hb dX5_addCode_167 ci_2 ?_
                          refine z_muV (As := [.int (nI 2)]) (rest := []) ⟨hx, hb, hml, hown, hts⟩ (c_X5_fail l D cI y0 y1 y2 y3 y4 y5 0 k n q sg rp lo ea go ak gn gf 2) (cwV 1 hts gX5_addCode_X5_fail rfl rfl rfl hd_X5_fail ⟨Nat.le_of_ble_eq_true rfl, Nat.le_of_ble_eq_true rfl⟩) ⟨hK, hE⟩ hP hD rfl hS [0] (by decide) rfl (fun _ => rfl) (va_recv hK hP (ci := 5) (q0 := 0) rfl rfl) rfl hl.1 rfl (Nat.le_of_ble_eq_true rfl) dX5_addCode_168 (Nat.zero_le _) (Nat.zero_le _) (fun v9 u9 H locs hp hP hS => ?_)
                          obtain rfl := hp
                          have hP : va_P D vwCl [(y0, .inr (5, [.int (nI 2), .int (nI k), .ref y1, .ref y2, .int (nI n), .ref y3, .int (nI q), .int (nI sg), .int rp, .int lo, .int ea, .ref y4, .ref y5, .int (nI go), .int (nI ak), .int (nI gn), .int (nI gf)])), (y1, .inl (cI, 9, .inl K)), (y2, .inl (cI, 9, .inl (nA Lm)))] H := hP
                          refine W.eq (g2 := F0 mi 171 ls [.int (nI 0)]) rfl ?_
                          exact mu_iret hA hQ hx hb hr hlocks (2, k, nI 0, K, Lm) hP hS ⟨rfl, Or.inr (Or.inr ⟨hnb, ad_q hfl (by omega) (by omega), rfl, rfl, rfl, rfl, rfl⟩)⟩ dX5_addCode_171
                      · refine lv_iload hx hb dX5_addCode_131 (lv_at hl 1 rfl) ?_
                        refine z_if_ne (tgt := 148) hx hb dX5_addCode_133 (by decide) (by omega) (fun c_133 => ?_) (fun c_133 => ?_)
                        · refine lv_iconst (v := nI 1) hx hb dX5_addCode_148 ci_1 ?_
                          refine lv_goto (tgt := 153) hx hb dX5_addCode_149 (by decide) ?_
                          refine lv_istore (lv' := [(6, .int (nI 1)), (7, .int (nI i)), (5, .int (acK x1 x2 x3 x4)), (0, .ref y0), (1, .int x1), (2, .int x2), (3, .int x3), (4, .int x4)]) hx hb dX5_addCode_153 hl (by decide) rfl (fun ls hl => ?_)
                          refine lv_iinc (v := nI (i + 1)) (lv' := [(7, .int (nI (i + 1))), (6, .int (nI 1)), (5, .int (acK x1 x2 x3 x4)), (0, .ref y0), (1, .int x1), (2, .int x2), (3, .int x3), (4, .int x4)]) hx hb dX5_addCode_155 hl (k := 1) rfl (z_inc1 _) (by decide) rfl (fun ls hl => ?_)
                          refine lv_goto (tgt := 122) hx hb dX5_addCode_158 (by decide) ?_
                          exact ih_122 (i + 1) 1 (by omega) (by decide) (by first | exact Or.inl ⟨rfl, ad_p hfl c_133⟩ | exact Or.inl ⟨rfl, Or.inr ⟨i, Nat.lt_succ_self i, c_145⟩⟩ | exact Or.inr ⟨rfl, ad_n hfl c_133 c_145⟩) (by omega) H locs ls hP hS (lv_sub hl [0, 1, 2, 3, 4, 5, 6, 7] rfl)
                        · refine lv_aload_n hx hb dX5_addCode_136 rfl (lv_at hl 3 rfl) ?_
                          refine va_get (v := .ref y1) hx hb hts hi_5 hown hK hP 0 rfl rfl 2 (by decide) f_9 (fun _ h => h) rfl dX5_addCode_137 ?_
                          refine lv_iload hx hb dX5_addCode_140 (lv_at hl 0 rfl) ?_
                          refine z_iald hx hb hK hP 1 0 rfl rfl (by omega) (by decide) dX5_addCode_142 ?_
                          refine lv_iload hx hb dX5_addCode_143 (lv_at hl 2 rfl) ?_
                          refine lv_icmp_ne (tgt := 152) hx hb dX5_addCode_145 (by decide) (fun c_145 => ?_) (fun c_145 => ?_)
                          · refine lv_iconst (v := nI 0) hx hb dX5_addCode_152 ci_0 ?_
                            refine lv_istore (lv' := [(6, .int (nI 0)), (7, .int (nI i)), (5, .int (acK x1 x2 x3 x4)), (0, .ref y0), (1, .int x1), (2, .int x2), (3, .int x3), (4, .int x4)]) hx hb dX5_addCode_153 hl (by decide) rfl (fun ls hl => ?_)
                            refine lv_iinc (v := nI (i + 1)) (lv' := [(7, .int (nI (i + 1))), (6, .int (nI 0)), (5, .int (acK x1 x2 x3 x4)), (0, .ref y0), (1, .int x1), (2, .int x2), (3, .int x3), (4, .int x4)]) hx hb dX5_addCode_155 hl (k := 1) rfl (z_inc1 _) (by decide) rfl (fun ls hl => ?_)
                            refine lv_goto (tgt := 122) hx hb dX5_addCode_158 (by decide) ?_
                            exact ih_122 (i + 1) 0 (by omega) (by decide) (by first | exact Or.inl ⟨rfl, ad_p hfl c_133⟩ | exact Or.inl ⟨rfl, Or.inr ⟨i, Nat.lt_succ_self i, c_145⟩⟩ | exact Or.inr ⟨rfl, ad_n hfl c_133 c_145⟩) (by omega) H locs ls hP hS (lv_sub hl [0, 1, 2, 3, 4, 5, 6, 7] rfl)
                          · refine lv_iconst (v := nI 1) hx hb dX5_addCode_148 ci_1 ?_
                            refine lv_goto (tgt := 153) hx hb dX5_addCode_149 (by decide) ?_
                            refine lv_istore (lv' := [(6, .int (nI 1)), (7, .int (nI i)), (5, .int (acK x1 x2 x3 x4)), (0, .ref y0), (1, .int x1), (2, .int x2), (3, .int x3), (4, .int x4)]) hx hb dX5_addCode_153 hl (by decide) rfl (fun ls hl => ?_)
                            refine lv_iinc (v := nI (i + 1)) (lv' := [(7, .int (nI (i + 1))), (6, .int (nI 1)), (5, .int (acK x1 x2 x3 x4)), (0, .ref y0), (1, .int x1), (2, .int x2), (3, .int x3), (4, .int x4)]) hx hb dX5_addCode_155 hl (k := 1) rfl (z_inc1 _) (by decide) rfl (fun ls hl => ?_)
                            refine lv_goto (tgt := 122) hx hb dX5_addCode_158 (by decide) ?_
                            exact ih_122 (i + 1) 1 (by omega) (by decide) (by first | exact Or.inl ⟨rfl, ad_p hfl c_133⟩ | exact Or.inl ⟨rfl, Or.inr ⟨i, Nat.lt_succ_self i, c_145⟩⟩ | exact Or.inr ⟨rfl, ad_n hfl c_133 c_145⟩) (by omega) H locs ls hP hS (lv_sub hl [0, 1, 2, 3, 4, 5, 6, 7] rfl)
                  exact lp_122 ((k - 0) + 1) 0 0 (Nat.zero_le _) (by decide) (by first | exact Or.inl ⟨rfl, Or.inl c_109⟩ | exact Or.inr ⟨rfl, fun z => z.elim c_109 (fun ⟨c, hc, _⟩ => absurd hc (Nat.not_lt_zero _))⟩) (Nat.lt_succ_self _) H locs ls hP hS hl
                · refine lv_iconst (v := nI 1) hx hb dX5_addCode_112 ci_1 ?_
                  refine lv_goto (tgt := 117) hx hb dX5_addCode_113 (by decide) ?_
                  refine lv_istore (lv' := [(6, .int (nI 1)), (5, .int (acK x1 x2 x3 x4)), (0, .ref y0), (1, .int x1), (2, .int x2), (3, .int x3), (4, .int x4)]) hx hb dX5_addCode_117 hl (by decide) rfl (fun ls hl => ?_)
                  refine lv_iconst (v := nI 0) hx hb dX5_addCode_119 ci_0 ?_
                  refine lv_istore (lv' := [(7, .int (nI 0)), (6, .int (nI 1)), (5, .int (acK x1 x2 x3 x4)), (0, .ref y0), (1, .int x1), (2, .int x2), (3, .int x3), (4, .int x4)]) hx hb dX5_addCode_120 hl (by decide) rfl (fun ls hl => ?_)
                  have lp_122 : ∀ (Nf : Nat) (i : Nat) (fl : Nat) (hi : i ≤ k) (hf1 : fl ≤ 1) (hfl : (fl = 1 ∧ acDm K k (acK x1 x2 x3 x4) i) ∨ (fl = 0 ∧ ¬ acDm K k (acK x1 x2 x3 x4) i)) (hN : k - i < Nf) (H : Heap) (locs : List Loc) (ls : Array Slot), va_P D vwCl [(y0, .inr (5, [.int (nI 0), .int (nI k), .ref y1, .ref y2, .int (nI n), .ref y3, .int (nI q), .int (nI sg), .int rp, .int lo, .int ea, .ref y4, .ref y5, .int (nI go), .int (nI ak), .int (nI gn), .int (nI gf)])), (y1, .inl (cI, 9, .inl K)), (y2, .inl (cI, 9, .inl (nA Lm)))] H → va_S A sv.heap H locs → lv_has ls 8 [(7, .int (nI i)), (6, .int (nI fl)), (5, .int (acK x1 x2 x3 x4)), (0, .ref y0), (1, .int x1), (2, .int x2), (3, .int x3), (4, .int x4)] → W pg l ev rm_X5_addCode sv mi ag bl mt cd H locs 0 0 Q (F0 mi 122 ls []) := by
                    intro Nf
                    induction Nf with
                    | zero =>
                      intro i fl hi hf1 hfl hN
                      exact absurd hN (Nat.not_lt_zero _)
                    | succ Nf ih_122 =>
                      intro i fl hi hf1 hfl hN H locs ls hP hS hl
                      refine lv_iload hx hb dX5_addCode_122 (lv_at hl 0 rfl) ?_
                      refine lv_aload_n hx hb dX5_addCode_124 rfl (lv_at hl 3 rfl) ?_
                      refine va_get (v := .int (nI k)) hx hb hts hi_5 hown hK hP 0 rfl rfl 1 (by decide) f_36 (fun _ h => h) rfl dX5_addCode_125 ?_
                      refine z_icmp_ge (tgt := 161) hx hb dX5_addCode_128 (by decide) (by omega) (by omega) (fun c_128 => ?_) (fun c_128 => ?_)
                      · refine lv_iload hx hb dX5_addCode_161 (lv_at hl 1 rfl) ?_
                        refine z_if_eq (tgt := 172) hx hb dX5_addCode_163 (by decide) (by omega) (fun c_163 => ?_) (fun c_163 => ?_)
                        · refine lv_aload_n hx hb dX5_addCode_172 rfl (lv_at hl 3 rfl) ?_
                          refine va_get (v := .ref y1) hx hb hts hi_5 hown hK hP 0 rfl rfl 2 (by decide) f_9 (fun _ h => h) rfl dX5_addCode_173 ?_
                          refine lv_aload_n hx hb dX5_addCode_176 rfl (lv_at hl 3 rfl) ?_
                          refine va_get (v := .int (nI k)) hx hb hts hi_5 hown hK hP 0 rfl rfl 1 (by decide) f_36 (fun _ h => h) rfl dX5_addCode_177 ?_
                          refine lv_iload hx hb dX5_addCode_180 (lv_at hl 2 rfl) ?_
                          refine z_iast hx hb hK hP hD rfl hS 1 0 rfl rfl (by omega) (by decide) dX5_addCode_182 (fun H locs hP hS => ?_)
                          have hP : va_P D vwCl [(y0, .inr (5, [.int (nI 0), .int (nI k), .ref y1, .ref y2, .int (nI n), .ref y3, .int (nI q), .int (nI sg), .int rp, .int lo, .int ea, .ref y4, .ref y5, .int (nI go), .int (nI ak), .int (nI gn), .int (nI gf)])), (y1, .inl (cI, 9, .inl (upd K k (acK x1 x2 x3 x4)))), (y2, .inl (cI, 9, .inl (nA Lm)))] H := hP
                          refine lv_aload_n hx hb dX5_addCode_183 rfl (lv_at hl 3 rfl) ?_
                          refine va_get (v := .ref y2) hx hb hts hi_5 hown hK hP 0 rfl rfl 3 (by decide) f_13 (fun _ h => h) rfl dX5_addCode_184 ?_
                          refine lv_aload_n hx hb dX5_addCode_187 rfl (lv_at hl 3 rfl) ?_
                          refine va_get (v := .int (nI k)) hx hb hts hi_5 hown hK hP 0 rfl rfl 1 (by decide) f_36 (fun _ h => h) rfl dX5_addCode_188 ?_
                          refine lv_iload_n hx hb dX5_addCode_191 rfl (lv_at hl 6 rfl) ?_
                          refine lv_iconst (v := -1) hx hb dX5_addCode_192 ci_m1 ?_
                          refine lv_icmp_ne (tgt := 200) hx hb dX5_addCode_193 (by decide) (fun c_193 => ?_) (fun c_193 => ?_)
                          · refine lv_iload hx hb dX5_addCode_200 (lv_at hl 7 rfl) ?_
                            refine lv_iconst (v := -1) hx hb dX5_addCode_202 ci_m1 ?_
                            refine lv_icmp_ne (tgt := 210) hx hb dX5_addCode_203 (by decide) (fun c_203 => ?_) (fun c_203 => ?_)
                            · refine lv_iconst (v := nI 4) hx hb dX5_addCode_210 ci_4 ?_
                              refine z_iastN hx hb hK hP hD rfl hS 2 0 rfl rfl (by omega) (by decide) dX5_addCode_211 (fun H locs hP hS => ?_)
                              have hP : va_P D vwCl [(y0, .inr (5, [.int (nI 0), .int (nI k), .ref y1, .ref y2, .int (nI n), .ref y3, .int (nI q), .int (nI sg), .int rp, .int lo, .int ea, .ref y4, .ref y5, .int (nI go), .int (nI ak), .int (nI gn), .int (nI gf)])), (y1, .inl (cI, 9, .inl (upd K k (acK x1 x2 x3 x4)))), (y2, .inl (cI, 9, .inl (nA (updN Lm k 4))))] H := hP
                              refine lv_aload_n hx hb dX5_addCode_212 rfl (lv_at hl 3 rfl) ?_
                              refine lv_dup hx hb dX5_addCode_213 rfl ?_
                              refine va_get (v := .int (nI k)) hx hb hts hi_5 hown hK hP 0 rfl rfl 1 (by decide) f_36 (fun _ h => h) rfl dX5_addCode_214 ?_
                              refine lv_iconst (v := nI 1) hx hb dX5_addCode_217 ci_1 ?_
                              refine z_iadd hx hb dX5_addCode_218 ?_
                              refine z_put hx hb hts hi_5 tyX5 tyX5_ok nmX5 hown hK hP hD rfl hS 0 rfl rfl 1 (by decide) f_36 (fun _ h => h) rfl (by decide +kernel) (Nat.le_of_ble_eq_true rfl) dX5_addCode_219 (fun H locs hP hS => ?_)
                              have hP : va_P D vwCl [(y0, .inr (5, [.int (nI 0), .int (nI (k + 1)), .ref y1, .ref y2, .int (nI n), .ref y3, .int (nI q), .int (nI sg), .int rp, .int lo, .int ea, .ref y4, .ref y5, .int (nI go), .int (nI ak), .int (nI gn), .int (nI gf)])), (y1, .inl (cI, 9, .inl (upd K k (acK x1 x2 x3 x4)))), (y2, .inl (cI, 9, .inl (nA (updN Lm k 4))))] H := hP
                              refine lv_aload_n hx hb dX5_addCode_222 rfl (lv_at hl 3 rfl) ?_
                              refine va_get (v := .int (nI (k + 1))) hx hb hts hi_5 hown hK hP 0 rfl rfl 1 (by decide) f_36 (fun _ h => h) rfl dX5_addCode_223 ?_
                              refine lv_iconst (v := nI 1) hx hb dX5_addCode_226 ci_1 ?_
                              refine z_isub hx hb dX5_addCode_227 (by omega) ?_
                              exact mu_iret hA hQ hx hb hr hlocks (0, k + 1, nI ((k + 1) - 1), upd K k (acK x1 x2 x3 x4), updN Lm k 4) hP hS ⟨rfl, Or.inl ⟨hnb, ad_r hfl (by omega) (by omega), rfl, rfl, rfl, rfl, (by first | (rw [clen, if_neg c_203]; done) | (rw [clen, if_pos c_203, if_neg c_193]; done) | (rw [clen, if_pos (ad_4 hnb c_193), if_pos c_193]; done))⟩⟩ dX5_addCode_228
                            · refine lv_iconst (v := nI 3) hx hb dX5_addCode_206 ci_3 ?_
                              refine lv_goto (tgt := 211) hx hb dX5_addCode_207 (by decide) ?_
                              refine z_iastN hx hb hK hP hD rfl hS 2 0 rfl rfl (by omega) (by decide) dX5_addCode_211 (fun H locs hP hS => ?_)
                              have hP : va_P D vwCl [(y0, .inr (5, [.int (nI 0), .int (nI k), .ref y1, .ref y2, .int (nI n), .ref y3, .int (nI q), .int (nI sg), .int rp, .int lo, .int ea, .ref y4, .ref y5, .int (nI go), .int (nI ak), .int (nI gn), .int (nI gf)])), (y1, .inl (cI, 9, .inl (upd K k (acK x1 x2 x3 x4)))), (y2, .inl (cI, 9, .inl (nA (updN Lm k 3))))] H := hP
                              refine lv_aload_n hx hb dX5_addCode_212 rfl (lv_at hl 3 rfl) ?_
                              refine lv_dup hx hb dX5_addCode_213 rfl ?_
                              refine va_get (v := .int (nI k)) hx hb hts hi_5 hown hK hP 0 rfl rfl 1 (by decide) f_36 (fun _ h => h) rfl dX5_addCode_214 ?_
                              refine lv_iconst (v := nI 1) hx hb dX5_addCode_217 ci_1 ?_
                              refine z_iadd hx hb dX5_addCode_218 ?_
                              refine z_put hx hb hts hi_5 tyX5 tyX5_ok nmX5 hown hK hP hD rfl hS 0 rfl rfl 1 (by decide) f_36 (fun _ h => h) rfl (by decide +kernel) (Nat.le_of_ble_eq_true rfl) dX5_addCode_219 (fun H locs hP hS => ?_)
                              have hP : va_P D vwCl [(y0, .inr (5, [.int (nI 0), .int (nI (k + 1)), .ref y1, .ref y2, .int (nI n), .ref y3, .int (nI q), .int (nI sg), .int rp, .int lo, .int ea, .ref y4, .ref y5, .int (nI go), .int (nI ak), .int (nI gn), .int (nI gf)])), (y1, .inl (cI, 9, .inl (upd K k (acK x1 x2 x3 x4)))), (y2, .inl (cI, 9, .inl (nA (updN Lm k 3))))] H := hP
                              refine lv_aload_n hx hb dX5_addCode_222 rfl (lv_at hl 3 rfl) ?_
                              refine va_get (v := .int (nI (k + 1))) hx hb hts hi_5 hown hK hP 0 rfl rfl 1 (by decide) f_36 (fun _ h => h) rfl dX5_addCode_223 ?_
                              refine lv_iconst (v := nI 1) hx hb dX5_addCode_226 ci_1 ?_
                              refine z_isub hx hb dX5_addCode_227 (by omega) ?_
                              exact mu_iret hA hQ hx hb hr hlocks (0, k + 1, nI ((k + 1) - 1), upd K k (acK x1 x2 x3 x4), updN Lm k 3) hP hS ⟨rfl, Or.inl ⟨hnb, ad_r hfl (by omega) (by omega), rfl, rfl, rfl, rfl, (by first | (rw [clen, if_neg c_203]; done) | (rw [clen, if_pos c_203, if_neg c_193]; done) | (rw [clen, if_pos (ad_4 hnb c_193), if_pos c_193]; done))⟩⟩ dX5_addCode_228
                          · refine lv_iconst (v := nI 2) hx hb dX5_addCode_196 ci_2 ?_
                            refine lv_goto (tgt := 211) hx hb dX5_addCode_197 (by decide) ?_
                            refine z_iastN hx hb hK hP hD rfl hS 2 0 rfl rfl (by omega) (by decide) dX5_addCode_211 (fun H locs hP hS => ?_)
                            have hP : va_P D vwCl [(y0, .inr (5, [.int (nI 0), .int (nI k), .ref y1, .ref y2, .int (nI n), .ref y3, .int (nI q), .int (nI sg), .int rp, .int lo, .int ea, .ref y4, .ref y5, .int (nI go), .int (nI ak), .int (nI gn), .int (nI gf)])), (y1, .inl (cI, 9, .inl (upd K k (acK x1 x2 x3 x4)))), (y2, .inl (cI, 9, .inl (nA (updN Lm k 2))))] H := hP
                            refine lv_aload_n hx hb dX5_addCode_212 rfl (lv_at hl 3 rfl) ?_
                            refine lv_dup hx hb dX5_addCode_213 rfl ?_
                            refine va_get (v := .int (nI k)) hx hb hts hi_5 hown hK hP 0 rfl rfl 1 (by decide) f_36 (fun _ h => h) rfl dX5_addCode_214 ?_
                            refine lv_iconst (v := nI 1) hx hb dX5_addCode_217 ci_1 ?_
                            refine z_iadd hx hb dX5_addCode_218 ?_
                            refine z_put hx hb hts hi_5 tyX5 tyX5_ok nmX5 hown hK hP hD rfl hS 0 rfl rfl 1 (by decide) f_36 (fun _ h => h) rfl (by decide +kernel) (Nat.le_of_ble_eq_true rfl) dX5_addCode_219 (fun H locs hP hS => ?_)
                            have hP : va_P D vwCl [(y0, .inr (5, [.int (nI 0), .int (nI (k + 1)), .ref y1, .ref y2, .int (nI n), .ref y3, .int (nI q), .int (nI sg), .int rp, .int lo, .int ea, .ref y4, .ref y5, .int (nI go), .int (nI ak), .int (nI gn), .int (nI gf)])), (y1, .inl (cI, 9, .inl (upd K k (acK x1 x2 x3 x4)))), (y2, .inl (cI, 9, .inl (nA (updN Lm k 2))))] H := hP
                            refine lv_aload_n hx hb dX5_addCode_222 rfl (lv_at hl 3 rfl) ?_
                            refine va_get (v := .int (nI (k + 1))) hx hb hts hi_5 hown hK hP 0 rfl rfl 1 (by decide) f_36 (fun _ h => h) rfl dX5_addCode_223 ?_
                            refine lv_iconst (v := nI 1) hx hb dX5_addCode_226 ci_1 ?_
                            refine z_isub hx hb dX5_addCode_227 (by omega) ?_
                            exact mu_iret hA hQ hx hb hr hlocks (0, k + 1, nI ((k + 1) - 1), upd K k (acK x1 x2 x3 x4), updN Lm k 2) hP hS ⟨rfl, Or.inl ⟨hnb, ad_r hfl (by omega) (by omega), rfl, rfl, rfl, rfl, (by first | (rw [clen, if_neg c_203]; done) | (rw [clen, if_pos c_203, if_neg c_193]; done) | (rw [clen, if_pos (ad_4 hnb c_193), if_pos c_193]; done))⟩⟩ dX5_addCode_228
                        · refine lv_aload_n hx hb dX5_addCode_166 rfl (lv_at hl 3 rfl) ?_
                          refine lv_iconst (v := nI 2) hx hb dX5_addCode_167 ci_2 ?_
                          refine z_muV (As := [.int (nI 2)]) (rest := []) ⟨hx, hb, hml, hown, hts⟩ (c_X5_fail l D cI y0 y1 y2 y3 y4 y5 0 k n q sg rp lo ea go ak gn gf 2) (cwV 1 hts gX5_addCode_X5_fail rfl rfl rfl hd_X5_fail ⟨Nat.le_of_ble_eq_true rfl, Nat.le_of_ble_eq_true rfl⟩) ⟨hK, hE⟩ hP hD rfl hS [0] (by decide) rfl (fun _ => rfl) (va_recv hK hP (ci := 5) (q0 := 0) rfl rfl) rfl hl.1 rfl (Nat.le_of_ble_eq_true rfl) dX5_addCode_168 (Nat.zero_le _) (Nat.zero_le _) (fun v9 u9 H locs hp hP hS => ?_)
                          obtain rfl := hp
                          have hP : va_P D vwCl [(y0, .inr (5, [.int (nI 2), .int (nI k), .ref y1, .ref y2, .int (nI n), .ref y3, .int (nI q), .int (nI sg), .int rp, .int lo, .int ea, .ref y4, .ref y5, .int (nI go), .int (nI ak), .int (nI gn), .int (nI gf)])), (y1, .inl (cI, 9, .inl K)), (y2, .inl (cI, 9, .inl (nA Lm)))] H := hP
                          refine W.eq (g2 := F0 mi 171 ls [.int (nI 0)]) rfl ?_
                          exact mu_iret hA hQ hx hb hr hlocks (2, k, nI 0, K, Lm) hP hS ⟨rfl, Or.inr (Or.inr ⟨hnb, ad_q hfl (by omega) (by omega), rfl, rfl, rfl, rfl, rfl⟩)⟩ dX5_addCode_171
                      · refine lv_iload hx hb dX5_addCode_131 (lv_at hl 1 rfl) ?_
                        refine z_if_ne (tgt := 148) hx hb dX5_addCode_133 (by decide) (by omega) (fun c_133 => ?_) (fun c_133 => ?_)
                        · refine lv_iconst (v := nI 1) hx hb dX5_addCode_148 ci_1 ?_
                          refine lv_goto (tgt := 153) hx hb dX5_addCode_149 (by decide) ?_
                          refine lv_istore (lv' := [(6, .int (nI 1)), (7, .int (nI i)), (5, .int (acK x1 x2 x3 x4)), (0, .ref y0), (1, .int x1), (2, .int x2), (3, .int x3), (4, .int x4)]) hx hb dX5_addCode_153 hl (by decide) rfl (fun ls hl => ?_)
                          refine lv_iinc (v := nI (i + 1)) (lv' := [(7, .int (nI (i + 1))), (6, .int (nI 1)), (5, .int (acK x1 x2 x3 x4)), (0, .ref y0), (1, .int x1), (2, .int x2), (3, .int x3), (4, .int x4)]) hx hb dX5_addCode_155 hl (k := 1) rfl (z_inc1 _) (by decide) rfl (fun ls hl => ?_)
                          refine lv_goto (tgt := 122) hx hb dX5_addCode_158 (by decide) ?_
                          exact ih_122 (i + 1) 1 (by omega) (by decide) (by first | exact Or.inl ⟨rfl, ad_p hfl c_133⟩ | exact Or.inl ⟨rfl, Or.inr ⟨i, Nat.lt_succ_self i, c_145⟩⟩ | exact Or.inr ⟨rfl, ad_n hfl c_133 c_145⟩) (by omega) H locs ls hP hS (lv_sub hl [0, 1, 2, 3, 4, 5, 6, 7] rfl)
                        · refine lv_aload_n hx hb dX5_addCode_136 rfl (lv_at hl 3 rfl) ?_
                          refine va_get (v := .ref y1) hx hb hts hi_5 hown hK hP 0 rfl rfl 2 (by decide) f_9 (fun _ h => h) rfl dX5_addCode_137 ?_
                          refine lv_iload hx hb dX5_addCode_140 (lv_at hl 0 rfl) ?_
                          refine z_iald hx hb hK hP 1 0 rfl rfl (by omega) (by decide) dX5_addCode_142 ?_
                          refine lv_iload hx hb dX5_addCode_143 (lv_at hl 2 rfl) ?_
                          refine lv_icmp_ne (tgt := 152) hx hb dX5_addCode_145 (by decide) (fun c_145 => ?_) (fun c_145 => ?_)
                          · refine lv_iconst (v := nI 0) hx hb dX5_addCode_152 ci_0 ?_
                            refine lv_istore (lv' := [(6, .int (nI 0)), (7, .int (nI i)), (5, .int (acK x1 x2 x3 x4)), (0, .ref y0), (1, .int x1), (2, .int x2), (3, .int x3), (4, .int x4)]) hx hb dX5_addCode_153 hl (by decide) rfl (fun ls hl => ?_)
                            refine lv_iinc (v := nI (i + 1)) (lv' := [(7, .int (nI (i + 1))), (6, .int (nI 0)), (5, .int (acK x1 x2 x3 x4)), (0, .ref y0), (1, .int x1), (2, .int x2), (3, .int x3), (4, .int x4)]) hx hb dX5_addCode_155 hl (k := 1) rfl (z_inc1 _) (by decide) rfl (fun ls hl => ?_)
                            refine lv_goto (tgt := 122) hx hb dX5_addCode_158 (by decide) ?_
                            exact ih_122 (i + 1) 0 (by omega) (by decide) (by first | exact Or.inl ⟨rfl, ad_p hfl c_133⟩ | exact Or.inl ⟨rfl, Or.inr ⟨i, Nat.lt_succ_self i, c_145⟩⟩ | exact Or.inr ⟨rfl, ad_n hfl c_133 c_145⟩) (by omega) H locs ls hP hS (lv_sub hl [0, 1, 2, 3, 4, 5, 6, 7] rfl)
                          · refine lv_iconst (v := nI 1) hx hb dX5_addCode_148 ci_1 ?_
                            refine lv_goto (tgt := 153) hx hb dX5_addCode_149 (by decide) ?_
                            refine lv_istore (lv' := [(6, .int (nI 1)), (7, .int (nI i)), (5, .int (acK x1 x2 x3 x4)), (0, .ref y0), (1, .int x1), (2, .int x2), (3, .int x3), (4, .int x4)]) hx hb dX5_addCode_153 hl (by decide) rfl (fun ls hl => ?_)
                            refine lv_iinc (v := nI (i + 1)) (lv' := [(7, .int (nI (i + 1))), (6, .int (nI 1)), (5, .int (acK x1 x2 x3 x4)), (0, .ref y0), (1, .int x1), (2, .int x2), (3, .int x3), (4, .int x4)]) hx hb dX5_addCode_155 hl (k := 1) rfl (z_inc1 _) (by decide) rfl (fun ls hl => ?_)
                            refine lv_goto (tgt := 122) hx hb dX5_addCode_158 (by decide) ?_
                            exact ih_122 (i + 1) 1 (by omega) (by decide) (by first | exact Or.inl ⟨rfl, ad_p hfl c_133⟩ | exact Or.inl ⟨rfl, Or.inr ⟨i, Nat.lt_succ_self i, c_145⟩⟩ | exact Or.inr ⟨rfl, ad_n hfl c_133 c_145⟩) (by omega) H locs ls hP hS (lv_sub hl [0, 1, 2, 3, 4, 5, 6, 7] rfl)
                  exact lp_122 ((k - 0) + 1) 0 1 (Nat.zero_le _) (by decide) (by first | exact Or.inl ⟨rfl, Or.inl c_109⟩ | exact Or.inr ⟨rfl, fun z => z.elim c_109 (fun ⟨c, hc, _⟩ => absurd hc (Nat.not_lt_zero _))⟩) (Nat.lt_succ_self _) H locs ls hP hS hl
          · refine lv_iload hx hb dX5_addCode_45 (lv_at hl 4 rfl) ?_
            refine lv_iconst (v := -1) hx hb dX5_addCode_47 ci_m1 ?_
            refine lv_icmp_eq (tgt := 57) hx hb dX5_addCode_48 (by decide) (fun c_48 => ?_) (fun c_48 => ?_)
            · refine z_bipush (n := 11) hx hb rfl (by decide) dX5_addCode_57 ?_
              refine lv_iload_n hx hb dX5_addCode_59 rfl (lv_at hl 1 rfl) ?_
              refine lv_iconst (v := nI 1) hx hb dX5_addCode_60 ci_1 ?_
              refine lv_iadd hx hb dX5_addCode_61 ?_
              refine lv_imul hx hb dX5_addCode_62 ?_
              refine lv_iload_n hx hb dX5_addCode_63 rfl (lv_at hl 2 rfl) ?_
              refine lv_iadd hx hb dX5_addCode_64 ?_
              refine lv_iconst (v := nI 1) hx hb dX5_addCode_65 ci_1 ?_
              refine lv_iadd hx hb dX5_addCode_66 ?_
              refine lv_istore (lv' := [(5, .int ((((nI 11) * (x1 + (nI 1))) + x2) + (nI 1))), (0, .ref y0), (1, .int x1), (2, .int x2), (3, .int x3), (4, .int x4)]) hx hb dX5_addCode_67 hl (by decide) rfl (fun ls hl => ?_)
              have hnb : ¬ acBad x1 x2 x3 x4 := by
                rintro ((h | h) | (h | h) | ⟨h, h2⟩)
                · exact h c_9
                · exact h c_16
                · exact h (z_inM.mp c_26)
                · exact h (z_inM.mp c_37)
                · first | exact c_42 h | exact h2 c_48
              refine lv_iload_n hx hb dX5_addCode_69 rfl (lv_at hl 4 rfl) ?_
              refine lv_iconst (v := -1) hx hb dX5_addCode_70 ci_m1 ?_
              rw [show (((nI 11) * (x1 + (nI 1))) + x2) + (nI 1) = ac2 x1 x2 from rfl] at hl
              refine lv_icmp_eq (tgt := 85) hx hb dX5_addCode_71 (by decide) (fun c_71 => ?_) (fun c_71 => ?_)
              · rw [show ac2 x1 x2 = acN (ac2 x1 x2) x3 from (by unfold acN; first | exact (if_pos c_71).symm | exact (if_neg c_71).symm)] at hl
                refine lv_iload hx hb dX5_addCode_85 (lv_at hl 5 rfl) ?_
                refine lv_iconst (v := -1) hx hb dX5_addCode_87 ci_m1 ?_
                refine lv_icmp_eq (tgt := 103) hx hb dX5_addCode_88 (by decide) (fun c_88 => ?_) (fun c_88 => ?_)
                · rw [show acN (ac2 x1 x2) x3 = acK x1 x2 x3 x4 from (by unfold acK; conv => { rhs; unfold acN }; first | exact (if_pos c_88).symm | exact (if_neg c_88).symm)] at hl
                  refine lv_aload_n hx hb dX5_addCode_103 rfl (lv_at hl 1 rfl) ?_
                  refine va_get (v := .int (nI k)) hx hb hts hi_5 hown hK hP 0 rfl rfl 1 (by decide) f_36 (fun _ h => h) rfl dX5_addCode_104 ?_
                  refine z_bipush (n := 8) hx hb rfl (by decide) dX5_addCode_107 ?_
                  refine z_icmp_ne (tgt := 116) hx hb dX5_addCode_109 (by decide) (by omega) (by omega) (fun c_109 => ?_) (fun c_109 => ?_)
                  · refine lv_iconst (v := nI 0) hx hb dX5_addCode_116 ci_0 ?_
                    refine lv_istore (lv' := [(6, .int (nI 0)), (5, .int (acK x1 x2 x3 x4)), (0, .ref y0), (1, .int x1), (2, .int x2), (3, .int x3), (4, .int x4)]) hx hb dX5_addCode_117 hl (by decide) rfl (fun ls hl => ?_)
                    refine lv_iconst (v := nI 0) hx hb dX5_addCode_119 ci_0 ?_
                    refine lv_istore (lv' := [(7, .int (nI 0)), (6, .int (nI 0)), (5, .int (acK x1 x2 x3 x4)), (0, .ref y0), (1, .int x1), (2, .int x2), (3, .int x3), (4, .int x4)]) hx hb dX5_addCode_120 hl (by decide) rfl (fun ls hl => ?_)
                    have lp_122 : ∀ (Nf : Nat) (i : Nat) (fl : Nat) (hi : i ≤ k) (hf1 : fl ≤ 1) (hfl : (fl = 1 ∧ acDm K k (acK x1 x2 x3 x4) i) ∨ (fl = 0 ∧ ¬ acDm K k (acK x1 x2 x3 x4) i)) (hN : k - i < Nf) (H : Heap) (locs : List Loc) (ls : Array Slot), va_P D vwCl [(y0, .inr (5, [.int (nI 0), .int (nI k), .ref y1, .ref y2, .int (nI n), .ref y3, .int (nI q), .int (nI sg), .int rp, .int lo, .int ea, .ref y4, .ref y5, .int (nI go), .int (nI ak), .int (nI gn), .int (nI gf)])), (y1, .inl (cI, 9, .inl K)), (y2, .inl (cI, 9, .inl (nA Lm)))] H → va_S A sv.heap H locs → lv_has ls 8 [(7, .int (nI i)), (6, .int (nI fl)), (5, .int (acK x1 x2 x3 x4)), (0, .ref y0), (1, .int x1), (2, .int x2), (3, .int x3), (4, .int x4)] → W pg l ev rm_X5_addCode sv mi ag bl mt cd H locs 0 0 Q (F0 mi 122 ls []) := by
                      intro Nf
                      induction Nf with
                      | zero =>
                        intro i fl hi hf1 hfl hN
                        exact absurd hN (Nat.not_lt_zero _)
                      | succ Nf ih_122 =>
                        intro i fl hi hf1 hfl hN H locs ls hP hS hl
                        refine lv_iload hx hb dX5_addCode_122 (lv_at hl 0 rfl) ?_
                        refine lv_aload_n hx hb dX5_addCode_124 rfl (lv_at hl 3 rfl) ?_
                        refine va_get (v := .int (nI k)) hx hb hts hi_5 hown hK hP 0 rfl rfl 1 (by decide) f_36 (fun _ h => h) rfl dX5_addCode_125 ?_
                        refine z_icmp_ge (tgt := 161) hx hb dX5_addCode_128 (by decide) (by omega) (by omega) (fun c_128 => ?_) (fun c_128 => ?_)
                        · refine lv_iload hx hb dX5_addCode_161 (lv_at hl 1 rfl) ?_
                          refine z_if_eq (tgt := 172) hx hb dX5_addCode_163 (by decide) (by omega) (fun c_163 => ?_) (fun c_163 => ?_)
                          · refine lv_aload_n hx hb dX5_addCode_172 rfl (lv_at hl 3 rfl) ?_
                            refine va_get (v := .ref y1) hx hb hts hi_5 hown hK hP 0 rfl rfl 2 (by decide) f_9 (fun _ h => h) rfl dX5_addCode_173 ?_
                            refine lv_aload_n hx hb dX5_addCode_176 rfl (lv_at hl 3 rfl) ?_
                            refine va_get (v := .int (nI k)) hx hb hts hi_5 hown hK hP 0 rfl rfl 1 (by decide) f_36 (fun _ h => h) rfl dX5_addCode_177 ?_
                            refine lv_iload hx hb dX5_addCode_180 (lv_at hl 2 rfl) ?_
                            refine z_iast hx hb hK hP hD rfl hS 1 0 rfl rfl (by omega) (by decide) dX5_addCode_182 (fun H locs hP hS => ?_)
                            have hP : va_P D vwCl [(y0, .inr (5, [.int (nI 0), .int (nI k), .ref y1, .ref y2, .int (nI n), .ref y3, .int (nI q), .int (nI sg), .int rp, .int lo, .int ea, .ref y4, .ref y5, .int (nI go), .int (nI ak), .int (nI gn), .int (nI gf)])), (y1, .inl (cI, 9, .inl (upd K k (acK x1 x2 x3 x4)))), (y2, .inl (cI, 9, .inl (nA Lm)))] H := hP
                            refine lv_aload_n hx hb dX5_addCode_183 rfl (lv_at hl 3 rfl) ?_
                            refine va_get (v := .ref y2) hx hb hts hi_5 hown hK hP 0 rfl rfl 3 (by decide) f_13 (fun _ h => h) rfl dX5_addCode_184 ?_
                            refine lv_aload_n hx hb dX5_addCode_187 rfl (lv_at hl 3 rfl) ?_
                            refine va_get (v := .int (nI k)) hx hb hts hi_5 hown hK hP 0 rfl rfl 1 (by decide) f_36 (fun _ h => h) rfl dX5_addCode_188 ?_
                            refine lv_iload_n hx hb dX5_addCode_191 rfl (lv_at hl 6 rfl) ?_
                            refine lv_iconst (v := -1) hx hb dX5_addCode_192 ci_m1 ?_
                            refine lv_icmp_ne (tgt := 200) hx hb dX5_addCode_193 (by decide) (fun c_193 => ?_) (fun c_193 => ?_)
                            · refine lv_iload hx hb dX5_addCode_200 (lv_at hl 7 rfl) ?_
                              refine lv_iconst (v := -1) hx hb dX5_addCode_202 ci_m1 ?_
                              refine lv_icmp_ne (tgt := 210) hx hb dX5_addCode_203 (by decide) (fun c_203 => ?_) (fun c_203 => ?_)
                              · refine lv_iconst (v := nI 4) hx hb dX5_addCode_210 ci_4 ?_
                                refine z_iastN hx hb hK hP hD rfl hS 2 0 rfl rfl (by omega) (by decide) dX5_addCode_211 (fun H locs hP hS => ?_)
                                have hP : va_P D vwCl [(y0, .inr (5, [.int (nI 0), .int (nI k), .ref y1, .ref y2, .int (nI n), .ref y3, .int (nI q), .int (nI sg), .int rp, .int lo, .int ea, .ref y4, .ref y5, .int (nI go), .int (nI ak), .int (nI gn), .int (nI gf)])), (y1, .inl (cI, 9, .inl (upd K k (acK x1 x2 x3 x4)))), (y2, .inl (cI, 9, .inl (nA (updN Lm k 4))))] H := hP
                                refine lv_aload_n hx hb dX5_addCode_212 rfl (lv_at hl 3 rfl) ?_
                                refine lv_dup hx hb dX5_addCode_213 rfl ?_
                                refine va_get (v := .int (nI k)) hx hb hts hi_5 hown hK hP 0 rfl rfl 1 (by decide) f_36 (fun _ h => h) rfl dX5_addCode_214 ?_
                                refine lv_iconst (v := nI 1) hx hb dX5_addCode_217 ci_1 ?_
                                refine z_iadd hx hb dX5_addCode_218 ?_
                                refine z_put hx hb hts hi_5 tyX5 tyX5_ok nmX5 hown hK hP hD rfl hS 0 rfl rfl 1 (by decide) f_36 (fun _ h => h) rfl (by decide +kernel) (Nat.le_of_ble_eq_true rfl) dX5_addCode_219 (fun H locs hP hS => ?_)
                                have hP : va_P D vwCl [(y0, .inr (5, [.int (nI 0), .int (nI (k + 1)), .ref y1, .ref y2, .int (nI n), .ref y3, .int (nI q), .int (nI sg), .int rp, .int lo, .int ea, .ref y4, .ref y5, .int (nI go), .int (nI ak), .int (nI gn), .int (nI gf)])), (y1, .inl (cI, 9, .inl (upd K k (acK x1 x2 x3 x4)))), (y2, .inl (cI, 9, .inl (nA (updN Lm k 4))))] H := hP
                                refine lv_aload_n hx hb dX5_addCode_222 rfl (lv_at hl 3 rfl) ?_
                                refine va_get (v := .int (nI (k + 1))) hx hb hts hi_5 hown hK hP 0 rfl rfl 1 (by decide) f_36 (fun _ h => h) rfl dX5_addCode_223 ?_
                                refine lv_iconst (v := nI 1) hx hb dX5_addCode_226 ci_1 ?_
                                refine z_isub hx hb dX5_addCode_227 (by omega) ?_
                                exact mu_iret hA hQ hx hb hr hlocks (0, k + 1, nI ((k + 1) - 1), upd K k (acK x1 x2 x3 x4), updN Lm k 4) hP hS ⟨rfl, Or.inl ⟨hnb, ad_r hfl (by omega) (by omega), rfl, rfl, rfl, rfl, (by first | (rw [clen, if_neg c_203]; done) | (rw [clen, if_pos c_203, if_neg c_193]; done) | (rw [clen, if_pos (ad_4 hnb c_193), if_pos c_193]; done))⟩⟩ dX5_addCode_228
                              · refine lv_iconst (v := nI 3) hx hb dX5_addCode_206 ci_3 ?_
                                refine lv_goto (tgt := 211) hx hb dX5_addCode_207 (by decide) ?_
                                refine z_iastN hx hb hK hP hD rfl hS 2 0 rfl rfl (by omega) (by decide) dX5_addCode_211 (fun H locs hP hS => ?_)
                                have hP : va_P D vwCl [(y0, .inr (5, [.int (nI 0), .int (nI k), .ref y1, .ref y2, .int (nI n), .ref y3, .int (nI q), .int (nI sg), .int rp, .int lo, .int ea, .ref y4, .ref y5, .int (nI go), .int (nI ak), .int (nI gn), .int (nI gf)])), (y1, .inl (cI, 9, .inl (upd K k (acK x1 x2 x3 x4)))), (y2, .inl (cI, 9, .inl (nA (updN Lm k 3))))] H := hP
                                refine lv_aload_n hx hb dX5_addCode_212 rfl (lv_at hl 3 rfl) ?_
                                refine lv_dup hx hb dX5_addCode_213 rfl ?_
                                refine va_get (v := .int (nI k)) hx hb hts hi_5 hown hK hP 0 rfl rfl 1 (by decide) f_36 (fun _ h => h) rfl dX5_addCode_214 ?_
                                refine lv_iconst (v := nI 1) hx hb dX5_addCode_217 ci_1 ?_
                                refine z_iadd hx hb dX5_addCode_218 ?_
                                refine z_put hx hb hts hi_5 tyX5 tyX5_ok nmX5 hown hK hP hD rfl hS 0 rfl rfl 1 (by decide) f_36 (fun _ h => h) rfl (by decide +kernel) (Nat.le_of_ble_eq_true rfl) dX5_addCode_219 (fun H locs hP hS => ?_)
                                have hP : va_P D vwCl [(y0, .inr (5, [.int (nI 0), .int (nI (k + 1)), .ref y1, .ref y2, .int (nI n), .ref y3, .int (nI q), .int (nI sg), .int rp, .int lo, .int ea, .ref y4, .ref y5, .int (nI go), .int (nI ak), .int (nI gn), .int (nI gf)])), (y1, .inl (cI, 9, .inl (upd K k (acK x1 x2 x3 x4)))), (y2, .inl (cI, 9, .inl (nA (updN Lm k 3))))] H := hP
                                refine lv_aload_n hx hb dX5_addCode_222 rfl (lv_at hl 3 rfl) ?_
                                refine va_get (v := .int (nI (k + 1))) hx hb hts hi_5 hown hK hP 0 rfl rfl 1 (by decide) f_36 (fun _ h => h) rfl dX5_addCode_223 ?_
                                refine lv_iconst (v := nI 1) hx hb dX5_addCode_226 ci_1 ?_
                                refine z_isub hx hb dX5_addCode_227 (by omega) ?_
                                exact mu_iret hA hQ hx hb hr hlocks (0, k + 1, nI ((k + 1) - 1), upd K k (acK x1 x2 x3 x4), updN Lm k 3) hP hS ⟨rfl, Or.inl ⟨hnb, ad_r hfl (by omega) (by omega), rfl, rfl, rfl, rfl, (by first | (rw [clen, if_neg c_203]; done) | (rw [clen, if_pos c_203, if_neg c_193]; done) | (rw [clen, if_pos (ad_4 hnb c_193), if_pos c_193]; done))⟩⟩ dX5_addCode_228
                            · refine lv_iconst (v := nI 2) hx hb dX5_addCode_196 ci_2 ?_
                              refine lv_goto (tgt := 211) hx hb dX5_addCode_197 (by decide) ?_
                              refine z_iastN hx hb hK hP hD rfl hS 2 0 rfl rfl (by omega) (by decide) dX5_addCode_211 (fun H locs hP hS => ?_)
                              have hP : va_P D vwCl [(y0, .inr (5, [.int (nI 0), .int (nI k), .ref y1, .ref y2, .int (nI n), .ref y3, .int (nI q), .int (nI sg), .int rp, .int lo, .int ea, .ref y4, .ref y5, .int (nI go), .int (nI ak), .int (nI gn), .int (nI gf)])), (y1, .inl (cI, 9, .inl (upd K k (acK x1 x2 x3 x4)))), (y2, .inl (cI, 9, .inl (nA (updN Lm k 2))))] H := hP
                              refine lv_aload_n hx hb dX5_addCode_212 rfl (lv_at hl 3 rfl) ?_
                              refine lv_dup hx hb dX5_addCode_213 rfl ?_
                              refine va_get (v := .int (nI k)) hx hb hts hi_5 hown hK hP 0 rfl rfl 1 (by decide) f_36 (fun _ h => h) rfl dX5_addCode_214 ?_
                              refine lv_iconst (v := nI 1) hx hb dX5_addCode_217 ci_1 ?_
                              refine z_iadd hx hb dX5_addCode_218 ?_
                              refine z_put hx hb hts hi_5 tyX5 tyX5_ok nmX5 hown hK hP hD rfl hS 0 rfl rfl 1 (by decide) f_36 (fun _ h => h) rfl (by decide +kernel) (Nat.le_of_ble_eq_true rfl) dX5_addCode_219 (fun H locs hP hS => ?_)
                              have hP : va_P D vwCl [(y0, .inr (5, [.int (nI 0), .int (nI (k + 1)), .ref y1, .ref y2, .int (nI n), .ref y3, .int (nI q), .int (nI sg), .int rp, .int lo, .int ea, .ref y4, .ref y5, .int (nI go), .int (nI ak), .int (nI gn), .int (nI gf)])), (y1, .inl (cI, 9, .inl (upd K k (acK x1 x2 x3 x4)))), (y2, .inl (cI, 9, .inl (nA (updN Lm k 2))))] H := hP
                              refine lv_aload_n hx hb dX5_addCode_222 rfl (lv_at hl 3 rfl) ?_
                              refine va_get (v := .int (nI (k + 1))) hx hb hts hi_5 hown hK hP 0 rfl rfl 1 (by decide) f_36 (fun _ h => h) rfl dX5_addCode_223 ?_
                              refine lv_iconst (v := nI 1) hx hb dX5_addCode_226 ci_1 ?_
                              refine z_isub hx hb dX5_addCode_227 (by omega) ?_
                              exact mu_iret hA hQ hx hb hr hlocks (0, k + 1, nI ((k + 1) - 1), upd K k (acK x1 x2 x3 x4), updN Lm k 2) hP hS ⟨rfl, Or.inl ⟨hnb, ad_r hfl (by omega) (by omega), rfl, rfl, rfl, rfl, (by first | (rw [clen, if_neg c_203]; done) | (rw [clen, if_pos c_203, if_neg c_193]; done) | (rw [clen, if_pos (ad_4 hnb c_193), if_pos c_193]; done))⟩⟩ dX5_addCode_228
                          · refine lv_aload_n hx hb dX5_addCode_166 rfl (lv_at hl 3 rfl) ?_
                            refine lv_iconst (v := nI 2) hx hb dX5_addCode_167 ci_2 ?_
                            refine z_muV (As := [.int (nI 2)]) (rest := []) ⟨hx, hb, hml, hown, hts⟩ (c_X5_fail l D cI y0 y1 y2 y3 y4 y5 0 k n q sg rp lo ea go ak gn gf 2) (cwV 1 hts gX5_addCode_X5_fail rfl rfl rfl hd_X5_fail ⟨Nat.le_of_ble_eq_true rfl, Nat.le_of_ble_eq_true rfl⟩) ⟨hK, hE⟩ hP hD rfl hS [0] (by decide) rfl (fun _ => rfl) (va_recv hK hP (ci := 5) (q0 := 0) rfl rfl) rfl hl.1 rfl (Nat.le_of_ble_eq_true rfl) dX5_addCode_168 (Nat.zero_le _) (Nat.zero_le _) (fun v9 u9 H locs hp hP hS => ?_)
                            obtain rfl := hp
                            have hP : va_P D vwCl [(y0, .inr (5, [.int (nI 2), .int (nI k), .ref y1, .ref y2, .int (nI n), .ref y3, .int (nI q), .int (nI sg), .int rp, .int lo, .int ea, .ref y4, .ref y5, .int (nI go), .int (nI ak), .int (nI gn), .int (nI gf)])), (y1, .inl (cI, 9, .inl K)), (y2, .inl (cI, 9, .inl (nA Lm)))] H := hP
                            refine W.eq (g2 := F0 mi 171 ls [.int (nI 0)]) rfl ?_
                            exact mu_iret hA hQ hx hb hr hlocks (2, k, nI 0, K, Lm) hP hS ⟨rfl, Or.inr (Or.inr ⟨hnb, ad_q hfl (by omega) (by omega), rfl, rfl, rfl, rfl, rfl⟩)⟩ dX5_addCode_171
                        · refine lv_iload hx hb dX5_addCode_131 (lv_at hl 1 rfl) ?_
                          refine z_if_ne (tgt := 148) hx hb dX5_addCode_133 (by decide) (by omega) (fun c_133 => ?_) (fun c_133 => ?_)
                          · refine lv_iconst (v := nI 1) hx hb dX5_addCode_148 ci_1 ?_
                            refine lv_goto (tgt := 153) hx hb dX5_addCode_149 (by decide) ?_
                            refine lv_istore (lv' := [(6, .int (nI 1)), (7, .int (nI i)), (5, .int (acK x1 x2 x3 x4)), (0, .ref y0), (1, .int x1), (2, .int x2), (3, .int x3), (4, .int x4)]) hx hb dX5_addCode_153 hl (by decide) rfl (fun ls hl => ?_)
                            refine lv_iinc (v := nI (i + 1)) (lv' := [(7, .int (nI (i + 1))), (6, .int (nI 1)), (5, .int (acK x1 x2 x3 x4)), (0, .ref y0), (1, .int x1), (2, .int x2), (3, .int x3), (4, .int x4)]) hx hb dX5_addCode_155 hl (k := 1) rfl (z_inc1 _) (by decide) rfl (fun ls hl => ?_)
                            refine lv_goto (tgt := 122) hx hb dX5_addCode_158 (by decide) ?_
                            exact ih_122 (i + 1) 1 (by omega) (by decide) (by first | exact Or.inl ⟨rfl, ad_p hfl c_133⟩ | exact Or.inl ⟨rfl, Or.inr ⟨i, Nat.lt_succ_self i, c_145⟩⟩ | exact Or.inr ⟨rfl, ad_n hfl c_133 c_145⟩) (by omega) H locs ls hP hS (lv_sub hl [0, 1, 2, 3, 4, 5, 6, 7] rfl)
                          · refine lv_aload_n hx hb dX5_addCode_136 rfl (lv_at hl 3 rfl) ?_
                            refine va_get (v := .ref y1) hx hb hts hi_5 hown hK hP 0 rfl rfl 2 (by decide) f_9 (fun _ h => h) rfl dX5_addCode_137 ?_
                            refine lv_iload hx hb dX5_addCode_140 (lv_at hl 0 rfl) ?_
                            refine z_iald hx hb hK hP 1 0 rfl rfl (by omega) (by decide) dX5_addCode_142 ?_
                            refine lv_iload hx hb dX5_addCode_143 (lv_at hl 2 rfl) ?_
                            refine lv_icmp_ne (tgt := 152) hx hb dX5_addCode_145 (by decide) (fun c_145 => ?_) (fun c_145 => ?_)
                            · refine lv_iconst (v := nI 0) hx hb dX5_addCode_152 ci_0 ?_
                              refine lv_istore (lv' := [(6, .int (nI 0)), (7, .int (nI i)), (5, .int (acK x1 x2 x3 x4)), (0, .ref y0), (1, .int x1), (2, .int x2), (3, .int x3), (4, .int x4)]) hx hb dX5_addCode_153 hl (by decide) rfl (fun ls hl => ?_)
                              refine lv_iinc (v := nI (i + 1)) (lv' := [(7, .int (nI (i + 1))), (6, .int (nI 0)), (5, .int (acK x1 x2 x3 x4)), (0, .ref y0), (1, .int x1), (2, .int x2), (3, .int x3), (4, .int x4)]) hx hb dX5_addCode_155 hl (k := 1) rfl (z_inc1 _) (by decide) rfl (fun ls hl => ?_)
                              refine lv_goto (tgt := 122) hx hb dX5_addCode_158 (by decide) ?_
                              exact ih_122 (i + 1) 0 (by omega) (by decide) (by first | exact Or.inl ⟨rfl, ad_p hfl c_133⟩ | exact Or.inl ⟨rfl, Or.inr ⟨i, Nat.lt_succ_self i, c_145⟩⟩ | exact Or.inr ⟨rfl, ad_n hfl c_133 c_145⟩) (by omega) H locs ls hP hS (lv_sub hl [0, 1, 2, 3, 4, 5, 6, 7] rfl)
                            · refine lv_iconst (v := nI 1) hx hb dX5_addCode_148 ci_1 ?_
                              refine lv_goto (tgt := 153) hx hb dX5_addCode_149 (by decide) ?_
                              refine lv_istore (lv' := [(6, .int (nI 1)), (7, .int (nI i)), (5, .int (acK x1 x2 x3 x4)), (0, .ref y0), (1, .int x1), (2, .int x2), (3, .int x3), (4, .int x4)]) hx hb dX5_addCode_153 hl (by decide) rfl (fun ls hl => ?_)
                              refine lv_iinc (v := nI (i + 1)) (lv' := [(7, .int (nI (i + 1))), (6, .int (nI 1)), (5, .int (acK x1 x2 x3 x4)), (0, .ref y0), (1, .int x1), (2, .int x2), (3, .int x3), (4, .int x4)]) hx hb dX5_addCode_155 hl (k := 1) rfl (z_inc1 _) (by decide) rfl (fun ls hl => ?_)
                              refine lv_goto (tgt := 122) hx hb dX5_addCode_158 (by decide) ?_
                              exact ih_122 (i + 1) 1 (by omega) (by decide) (by first | exact Or.inl ⟨rfl, ad_p hfl c_133⟩ | exact Or.inl ⟨rfl, Or.inr ⟨i, Nat.lt_succ_self i, c_145⟩⟩ | exact Or.inr ⟨rfl, ad_n hfl c_133 c_145⟩) (by omega) H locs ls hP hS (lv_sub hl [0, 1, 2, 3, 4, 5, 6, 7] rfl)
                    exact lp_122 ((k - 0) + 1) 0 0 (Nat.zero_le _) (by decide) (by first | exact Or.inl ⟨rfl, Or.inl c_109⟩ | exact Or.inr ⟨rfl, fun z => z.elim c_109 (fun ⟨c, hc, _⟩ => absurd hc (Nat.not_lt_zero _))⟩) (Nat.lt_succ_self _) H locs ls hP hS hl
                  · refine lv_iconst (v := nI 1) hx hb dX5_addCode_112 ci_1 ?_
                    refine lv_goto (tgt := 117) hx hb dX5_addCode_113 (by decide) ?_
                    refine lv_istore (lv' := [(6, .int (nI 1)), (5, .int (acK x1 x2 x3 x4)), (0, .ref y0), (1, .int x1), (2, .int x2), (3, .int x3), (4, .int x4)]) hx hb dX5_addCode_117 hl (by decide) rfl (fun ls hl => ?_)
                    refine lv_iconst (v := nI 0) hx hb dX5_addCode_119 ci_0 ?_
                    refine lv_istore (lv' := [(7, .int (nI 0)), (6, .int (nI 1)), (5, .int (acK x1 x2 x3 x4)), (0, .ref y0), (1, .int x1), (2, .int x2), (3, .int x3), (4, .int x4)]) hx hb dX5_addCode_120 hl (by decide) rfl (fun ls hl => ?_)
                    have lp_122 : ∀ (Nf : Nat) (i : Nat) (fl : Nat) (hi : i ≤ k) (hf1 : fl ≤ 1) (hfl : (fl = 1 ∧ acDm K k (acK x1 x2 x3 x4) i) ∨ (fl = 0 ∧ ¬ acDm K k (acK x1 x2 x3 x4) i)) (hN : k - i < Nf) (H : Heap) (locs : List Loc) (ls : Array Slot), va_P D vwCl [(y0, .inr (5, [.int (nI 0), .int (nI k), .ref y1, .ref y2, .int (nI n), .ref y3, .int (nI q), .int (nI sg), .int rp, .int lo, .int ea, .ref y4, .ref y5, .int (nI go), .int (nI ak), .int (nI gn), .int (nI gf)])), (y1, .inl (cI, 9, .inl K)), (y2, .inl (cI, 9, .inl (nA Lm)))] H → va_S A sv.heap H locs → lv_has ls 8 [(7, .int (nI i)), (6, .int (nI fl)), (5, .int (acK x1 x2 x3 x4)), (0, .ref y0), (1, .int x1), (2, .int x2), (3, .int x3), (4, .int x4)] → W pg l ev rm_X5_addCode sv mi ag bl mt cd H locs 0 0 Q (F0 mi 122 ls []) := by
                      intro Nf
                      induction Nf with
                      | zero =>
                        intro i fl hi hf1 hfl hN
                        exact absurd hN (Nat.not_lt_zero _)
                      | succ Nf ih_122 =>
                        intro i fl hi hf1 hfl hN H locs ls hP hS hl
                        refine lv_iload hx hb dX5_addCode_122 (lv_at hl 0 rfl) ?_
                        refine lv_aload_n hx hb dX5_addCode_124 rfl (lv_at hl 3 rfl) ?_
                        refine va_get (v := .int (nI k)) hx hb hts hi_5 hown hK hP 0 rfl rfl 1 (by decide) f_36 (fun _ h => h) rfl dX5_addCode_125 ?_
                        refine z_icmp_ge (tgt := 161) hx hb dX5_addCode_128 (by decide) (by omega) (by omega) (fun c_128 => ?_) (fun c_128 => ?_)
                        · refine lv_iload hx hb dX5_addCode_161 (lv_at hl 1 rfl) ?_
                          refine z_if_eq (tgt := 172) hx hb dX5_addCode_163 (by decide) (by omega) (fun c_163 => ?_) (fun c_163 => ?_)
                          · refine lv_aload_n hx hb dX5_addCode_172 rfl (lv_at hl 3 rfl) ?_
                            refine va_get (v := .ref y1) hx hb hts hi_5 hown hK hP 0 rfl rfl 2 (by decide) f_9 (fun _ h => h) rfl dX5_addCode_173 ?_
                            refine lv_aload_n hx hb dX5_addCode_176 rfl (lv_at hl 3 rfl) ?_
                            refine va_get (v := .int (nI k)) hx hb hts hi_5 hown hK hP 0 rfl rfl 1 (by decide) f_36 (fun _ h => h) rfl dX5_addCode_177 ?_
                            refine lv_iload hx hb dX5_addCode_180 (lv_at hl 2 rfl) ?_
                            refine z_iast hx hb hK hP hD rfl hS 1 0 rfl rfl (by omega) (by decide) dX5_addCode_182 (fun H locs hP hS => ?_)
                            have hP : va_P D vwCl [(y0, .inr (5, [.int (nI 0), .int (nI k), .ref y1, .ref y2, .int (nI n), .ref y3, .int (nI q), .int (nI sg), .int rp, .int lo, .int ea, .ref y4, .ref y5, .int (nI go), .int (nI ak), .int (nI gn), .int (nI gf)])), (y1, .inl (cI, 9, .inl (upd K k (acK x1 x2 x3 x4)))), (y2, .inl (cI, 9, .inl (nA Lm)))] H := hP
                            refine lv_aload_n hx hb dX5_addCode_183 rfl (lv_at hl 3 rfl) ?_
                            refine va_get (v := .ref y2) hx hb hts hi_5 hown hK hP 0 rfl rfl 3 (by decide) f_13 (fun _ h => h) rfl dX5_addCode_184 ?_
                            refine lv_aload_n hx hb dX5_addCode_187 rfl (lv_at hl 3 rfl) ?_
                            refine va_get (v := .int (nI k)) hx hb hts hi_5 hown hK hP 0 rfl rfl 1 (by decide) f_36 (fun _ h => h) rfl dX5_addCode_188 ?_
                            refine lv_iload_n hx hb dX5_addCode_191 rfl (lv_at hl 6 rfl) ?_
                            refine lv_iconst (v := -1) hx hb dX5_addCode_192 ci_m1 ?_
                            refine lv_icmp_ne (tgt := 200) hx hb dX5_addCode_193 (by decide) (fun c_193 => ?_) (fun c_193 => ?_)
                            · refine lv_iload hx hb dX5_addCode_200 (lv_at hl 7 rfl) ?_
                              refine lv_iconst (v := -1) hx hb dX5_addCode_202 ci_m1 ?_
                              refine lv_icmp_ne (tgt := 210) hx hb dX5_addCode_203 (by decide) (fun c_203 => ?_) (fun c_203 => ?_)
                              · refine lv_iconst (v := nI 4) hx hb dX5_addCode_210 ci_4 ?_
                                refine z_iastN hx hb hK hP hD rfl hS 2 0 rfl rfl (by omega) (by decide) dX5_addCode_211 (fun H locs hP hS => ?_)
                                have hP : va_P D vwCl [(y0, .inr (5, [.int (nI 0), .int (nI k), .ref y1, .ref y2, .int (nI n), .ref y3, .int (nI q), .int (nI sg), .int rp, .int lo, .int ea, .ref y4, .ref y5, .int (nI go), .int (nI ak), .int (nI gn), .int (nI gf)])), (y1, .inl (cI, 9, .inl (upd K k (acK x1 x2 x3 x4)))), (y2, .inl (cI, 9, .inl (nA (updN Lm k 4))))] H := hP
                                refine lv_aload_n hx hb dX5_addCode_212 rfl (lv_at hl 3 rfl) ?_
                                refine lv_dup hx hb dX5_addCode_213 rfl ?_
                                refine va_get (v := .int (nI k)) hx hb hts hi_5 hown hK hP 0 rfl rfl 1 (by decide) f_36 (fun _ h => h) rfl dX5_addCode_214 ?_
                                refine lv_iconst (v := nI 1) hx hb dX5_addCode_217 ci_1 ?_
                                refine z_iadd hx hb dX5_addCode_218 ?_
                                refine z_put hx hb hts hi_5 tyX5 tyX5_ok nmX5 hown hK hP hD rfl hS 0 rfl rfl 1 (by decide) f_36 (fun _ h => h) rfl (by decide +kernel) (Nat.le_of_ble_eq_true rfl) dX5_addCode_219 (fun H locs hP hS => ?_)
                                have hP : va_P D vwCl [(y0, .inr (5, [.int (nI 0), .int (nI (k + 1)), .ref y1, .ref y2, .int (nI n), .ref y3, .int (nI q), .int (nI sg), .int rp, .int lo, .int ea, .ref y4, .ref y5, .int (nI go), .int (nI ak), .int (nI gn), .int (nI gf)])), (y1, .inl (cI, 9, .inl (upd K k (acK x1 x2 x3 x4)))), (y2, .inl (cI, 9, .inl (nA (updN Lm k 4))))] H := hP
                                refine lv_aload_n hx hb dX5_addCode_222 rfl (lv_at hl 3 rfl) ?_
                                refine va_get (v := .int (nI (k + 1))) hx hb hts hi_5 hown hK hP 0 rfl rfl 1 (by decide) f_36 (fun _ h => h) rfl dX5_addCode_223 ?_
                                refine lv_iconst (v := nI 1) hx hb dX5_addCode_226 ci_1 ?_
                                refine z_isub hx hb dX5_addCode_227 (by omega) ?_
                                exact mu_iret hA hQ hx hb hr hlocks (0, k + 1, nI ((k + 1) - 1), upd K k (acK x1 x2 x3 x4), updN Lm k 4) hP hS ⟨rfl, Or.inl ⟨hnb, ad_r hfl (by omega) (by omega), rfl, rfl, rfl, rfl, (by first | (rw [clen, if_neg c_203]; done) | (rw [clen, if_pos c_203, if_neg c_193]; done) | (rw [clen, if_pos (ad_4 hnb c_193), if_pos c_193]; done))⟩⟩ dX5_addCode_228
                              · refine lv_iconst (v := nI 3) hx hb dX5_addCode_206 ci_3 ?_
                                refine lv_goto (tgt := 211) hx hb dX5_addCode_207 (by decide) ?_
                                refine z_iastN hx hb hK hP hD rfl hS 2 0 rfl rfl (by omega) (by decide) dX5_addCode_211 (fun H locs hP hS => ?_)
                                have hP : va_P D vwCl [(y0, .inr (5, [.int (nI 0), .int (nI k), .ref y1, .ref y2, .int (nI n), .ref y3, .int (nI q), .int (nI sg), .int rp, .int lo, .int ea, .ref y4, .ref y5, .int (nI go), .int (nI ak), .int (nI gn), .int (nI gf)])), (y1, .inl (cI, 9, .inl (upd K k (acK x1 x2 x3 x4)))), (y2, .inl (cI, 9, .inl (nA (updN Lm k 3))))] H := hP
                                refine lv_aload_n hx hb dX5_addCode_212 rfl (lv_at hl 3 rfl) ?_
                                refine lv_dup hx hb dX5_addCode_213 rfl ?_
                                refine va_get (v := .int (nI k)) hx hb hts hi_5 hown hK hP 0 rfl rfl 1 (by decide) f_36 (fun _ h => h) rfl dX5_addCode_214 ?_
                                refine lv_iconst (v := nI 1) hx hb dX5_addCode_217 ci_1 ?_
                                refine z_iadd hx hb dX5_addCode_218 ?_
                                refine z_put hx hb hts hi_5 tyX5 tyX5_ok nmX5 hown hK hP hD rfl hS 0 rfl rfl 1 (by decide) f_36 (fun _ h => h) rfl (by decide +kernel) (Nat.le_of_ble_eq_true rfl) dX5_addCode_219 (fun H locs hP hS => ?_)
                                have hP : va_P D vwCl [(y0, .inr (5, [.int (nI 0), .int (nI (k + 1)), .ref y1, .ref y2, .int (nI n), .ref y3, .int (nI q), .int (nI sg), .int rp, .int lo, .int ea, .ref y4, .ref y5, .int (nI go), .int (nI ak), .int (nI gn), .int (nI gf)])), (y1, .inl (cI, 9, .inl (upd K k (acK x1 x2 x3 x4)))), (y2, .inl (cI, 9, .inl (nA (updN Lm k 3))))] H := hP
                                refine lv_aload_n hx hb dX5_addCode_222 rfl (lv_at hl 3 rfl) ?_
                                refine va_get (v := .int (nI (k + 1))) hx hb hts hi_5 hown hK hP 0 rfl rfl 1 (by decide) f_36 (fun _ h => h) rfl dX5_addCode_223 ?_
                                refine lv_iconst (v := nI 1) hx hb dX5_addCode_226 ci_1 ?_
                                refine z_isub hx hb dX5_addCode_227 (by omega) ?_
                                exact mu_iret hA hQ hx hb hr hlocks (0, k + 1, nI ((k + 1) - 1), upd K k (acK x1 x2 x3 x4), updN Lm k 3) hP hS ⟨rfl, Or.inl ⟨hnb, ad_r hfl (by omega) (by omega), rfl, rfl, rfl, rfl, (by first | (rw [clen, if_neg c_203]; done) | (rw [clen, if_pos c_203, if_neg c_193]; done) | (rw [clen, if_pos (ad_4 hnb c_193), if_pos c_193]; done))⟩⟩ dX5_addCode_228
                            · refine lv_iconst (v := nI 2) hx hb dX5_addCode_196 ci_2 ?_
                              refine lv_goto (tgt := 211) hx hb dX5_addCode_197 (by decide) ?_
                              refine z_iastN hx hb hK hP hD rfl hS 2 0 rfl rfl (by omega) (by decide) dX5_addCode_211 (fun H locs hP hS => ?_)
                              have hP : va_P D vwCl [(y0, .inr (5, [.int (nI 0), .int (nI k), .ref y1, .ref y2, .int (nI n), .ref y3, .int (nI q), .int (nI sg), .int rp, .int lo, .int ea, .ref y4, .ref y5, .int (nI go), .int (nI ak), .int (nI gn), .int (nI gf)])), (y1, .inl (cI, 9, .inl (upd K k (acK x1 x2 x3 x4)))), (y2, .inl (cI, 9, .inl (nA (updN Lm k 2))))] H := hP
                              refine lv_aload_n hx hb dX5_addCode_212 rfl (lv_at hl 3 rfl) ?_
                              refine lv_dup hx hb dX5_addCode_213 rfl ?_
                              refine va_get (v := .int (nI k)) hx hb hts hi_5 hown hK hP 0 rfl rfl 1 (by decide) f_36 (fun _ h => h) rfl dX5_addCode_214 ?_
                              refine lv_iconst (v := nI 1) hx hb dX5_addCode_217 ci_1 ?_
                              refine z_iadd hx hb dX5_addCode_218 ?_
                              refine z_put hx hb hts hi_5 tyX5 tyX5_ok nmX5 hown hK hP hD rfl hS 0 rfl rfl 1 (by decide) f_36 (fun _ h => h) rfl (by decide +kernel) (Nat.le_of_ble_eq_true rfl) dX5_addCode_219 (fun H locs hP hS => ?_)
                              have hP : va_P D vwCl [(y0, .inr (5, [.int (nI 0), .int (nI (k + 1)), .ref y1, .ref y2, .int (nI n), .ref y3, .int (nI q), .int (nI sg), .int rp, .int lo, .int ea, .ref y4, .ref y5, .int (nI go), .int (nI ak), .int (nI gn), .int (nI gf)])), (y1, .inl (cI, 9, .inl (upd K k (acK x1 x2 x3 x4)))), (y2, .inl (cI, 9, .inl (nA (updN Lm k 2))))] H := hP
                              refine lv_aload_n hx hb dX5_addCode_222 rfl (lv_at hl 3 rfl) ?_
                              refine va_get (v := .int (nI (k + 1))) hx hb hts hi_5 hown hK hP 0 rfl rfl 1 (by decide) f_36 (fun _ h => h) rfl dX5_addCode_223 ?_
                              refine lv_iconst (v := nI 1) hx hb dX5_addCode_226 ci_1 ?_
                              refine z_isub hx hb dX5_addCode_227 (by omega) ?_
                              exact mu_iret hA hQ hx hb hr hlocks (0, k + 1, nI ((k + 1) - 1), upd K k (acK x1 x2 x3 x4), updN Lm k 2) hP hS ⟨rfl, Or.inl ⟨hnb, ad_r hfl (by omega) (by omega), rfl, rfl, rfl, rfl, (by first | (rw [clen, if_neg c_203]; done) | (rw [clen, if_pos c_203, if_neg c_193]; done) | (rw [clen, if_pos (ad_4 hnb c_193), if_pos c_193]; done))⟩⟩ dX5_addCode_228
                          · refine lv_aload_n hx hb dX5_addCode_166 rfl (lv_at hl 3 rfl) ?_
                            refine lv_iconst (v := nI 2) hx hb dX5_addCode_167 ci_2 ?_
                            refine z_muV (As := [.int (nI 2)]) (rest := []) ⟨hx, hb, hml, hown, hts⟩ (c_X5_fail l D cI y0 y1 y2 y3 y4 y5 0 k n q sg rp lo ea go ak gn gf 2) (cwV 1 hts gX5_addCode_X5_fail rfl rfl rfl hd_X5_fail ⟨Nat.le_of_ble_eq_true rfl, Nat.le_of_ble_eq_true rfl⟩) ⟨hK, hE⟩ hP hD rfl hS [0] (by decide) rfl (fun _ => rfl) (va_recv hK hP (ci := 5) (q0 := 0) rfl rfl) rfl hl.1 rfl (Nat.le_of_ble_eq_true rfl) dX5_addCode_168 (Nat.zero_le _) (Nat.zero_le _) (fun v9 u9 H locs hp hP hS => ?_)
                            obtain rfl := hp
                            have hP : va_P D vwCl [(y0, .inr (5, [.int (nI 2), .int (nI k), .ref y1, .ref y2, .int (nI n), .ref y3, .int (nI q), .int (nI sg), .int rp, .int lo, .int ea, .ref y4, .ref y5, .int (nI go), .int (nI ak), .int (nI gn), .int (nI gf)])), (y1, .inl (cI, 9, .inl K)), (y2, .inl (cI, 9, .inl (nA Lm)))] H := hP
                            refine W.eq (g2 := F0 mi 171 ls [.int (nI 0)]) rfl ?_
                            exact mu_iret hA hQ hx hb hr hlocks (2, k, nI 0, K, Lm) hP hS ⟨rfl, Or.inr (Or.inr ⟨hnb, ad_q hfl (by omega) (by omega), rfl, rfl, rfl, rfl, rfl⟩)⟩ dX5_addCode_171
                        · refine lv_iload hx hb dX5_addCode_131 (lv_at hl 1 rfl) ?_
                          refine z_if_ne (tgt := 148) hx hb dX5_addCode_133 (by decide) (by omega) (fun c_133 => ?_) (fun c_133 => ?_)
                          · refine lv_iconst (v := nI 1) hx hb dX5_addCode_148 ci_1 ?_
                            refine lv_goto (tgt := 153) hx hb dX5_addCode_149 (by decide) ?_
                            refine lv_istore (lv' := [(6, .int (nI 1)), (7, .int (nI i)), (5, .int (acK x1 x2 x3 x4)), (0, .ref y0), (1, .int x1), (2, .int x2), (3, .int x3), (4, .int x4)]) hx hb dX5_addCode_153 hl (by decide) rfl (fun ls hl => ?_)
                            refine lv_iinc (v := nI (i + 1)) (lv' := [(7, .int (nI (i + 1))), (6, .int (nI 1)), (5, .int (acK x1 x2 x3 x4)), (0, .ref y0), (1, .int x1), (2, .int x2), (3, .int x3), (4, .int x4)]) hx hb dX5_addCode_155 hl (k := 1) rfl (z_inc1 _) (by decide) rfl (fun ls hl => ?_)
                            refine lv_goto (tgt := 122) hx hb dX5_addCode_158 (by decide) ?_
                            exact ih_122 (i + 1) 1 (by omega) (by decide) (by first | exact Or.inl ⟨rfl, ad_p hfl c_133⟩ | exact Or.inl ⟨rfl, Or.inr ⟨i, Nat.lt_succ_self i, c_145⟩⟩ | exact Or.inr ⟨rfl, ad_n hfl c_133 c_145⟩) (by omega) H locs ls hP hS (lv_sub hl [0, 1, 2, 3, 4, 5, 6, 7] rfl)
                          · refine lv_aload_n hx hb dX5_addCode_136 rfl (lv_at hl 3 rfl) ?_
                            refine va_get (v := .ref y1) hx hb hts hi_5 hown hK hP 0 rfl rfl 2 (by decide) f_9 (fun _ h => h) rfl dX5_addCode_137 ?_
                            refine lv_iload hx hb dX5_addCode_140 (lv_at hl 0 rfl) ?_
                            refine z_iald hx hb hK hP 1 0 rfl rfl (by omega) (by decide) dX5_addCode_142 ?_
                            refine lv_iload hx hb dX5_addCode_143 (lv_at hl 2 rfl) ?_
                            refine lv_icmp_ne (tgt := 152) hx hb dX5_addCode_145 (by decide) (fun c_145 => ?_) (fun c_145 => ?_)
                            · refine lv_iconst (v := nI 0) hx hb dX5_addCode_152 ci_0 ?_
                              refine lv_istore (lv' := [(6, .int (nI 0)), (7, .int (nI i)), (5, .int (acK x1 x2 x3 x4)), (0, .ref y0), (1, .int x1), (2, .int x2), (3, .int x3), (4, .int x4)]) hx hb dX5_addCode_153 hl (by decide) rfl (fun ls hl => ?_)
                              refine lv_iinc (v := nI (i + 1)) (lv' := [(7, .int (nI (i + 1))), (6, .int (nI 0)), (5, .int (acK x1 x2 x3 x4)), (0, .ref y0), (1, .int x1), (2, .int x2), (3, .int x3), (4, .int x4)]) hx hb dX5_addCode_155 hl (k := 1) rfl (z_inc1 _) (by decide) rfl (fun ls hl => ?_)
                              refine lv_goto (tgt := 122) hx hb dX5_addCode_158 (by decide) ?_
                              exact ih_122 (i + 1) 0 (by omega) (by decide) (by first | exact Or.inl ⟨rfl, ad_p hfl c_133⟩ | exact Or.inl ⟨rfl, Or.inr ⟨i, Nat.lt_succ_self i, c_145⟩⟩ | exact Or.inr ⟨rfl, ad_n hfl c_133 c_145⟩) (by omega) H locs ls hP hS (lv_sub hl [0, 1, 2, 3, 4, 5, 6, 7] rfl)
                            · refine lv_iconst (v := nI 1) hx hb dX5_addCode_148 ci_1 ?_
                              refine lv_goto (tgt := 153) hx hb dX5_addCode_149 (by decide) ?_
                              refine lv_istore (lv' := [(6, .int (nI 1)), (7, .int (nI i)), (5, .int (acK x1 x2 x3 x4)), (0, .ref y0), (1, .int x1), (2, .int x2), (3, .int x3), (4, .int x4)]) hx hb dX5_addCode_153 hl (by decide) rfl (fun ls hl => ?_)
                              refine lv_iinc (v := nI (i + 1)) (lv' := [(7, .int (nI (i + 1))), (6, .int (nI 1)), (5, .int (acK x1 x2 x3 x4)), (0, .ref y0), (1, .int x1), (2, .int x2), (3, .int x3), (4, .int x4)]) hx hb dX5_addCode_155 hl (k := 1) rfl (z_inc1 _) (by decide) rfl (fun ls hl => ?_)
                              refine lv_goto (tgt := 122) hx hb dX5_addCode_158 (by decide) ?_
                              exact ih_122 (i + 1) 1 (by omega) (by decide) (by first | exact Or.inl ⟨rfl, ad_p hfl c_133⟩ | exact Or.inl ⟨rfl, Or.inr ⟨i, Nat.lt_succ_self i, c_145⟩⟩ | exact Or.inr ⟨rfl, ad_n hfl c_133 c_145⟩) (by omega) H locs ls hP hS (lv_sub hl [0, 1, 2, 3, 4, 5, 6, 7] rfl)
                    exact lp_122 ((k - 0) + 1) 0 1 (Nat.zero_le _) (by decide) (by first | exact Or.inl ⟨rfl, Or.inl c_109⟩ | exact Or.inr ⟨rfl, fun z => z.elim c_109 (fun ⟨c, hc, _⟩ => absurd hc (Nat.not_lt_zero _))⟩) (Nat.lt_succ_self _) H locs ls hP hS hl
                · refine z_bipush (n := 11) hx hb rfl (by decide) dX5_addCode_91 ?_
                  refine lv_iload hx hb dX5_addCode_93 (lv_at hl 0 rfl) ?_
                  refine lv_imul hx hb dX5_addCode_95 ?_
                  refine lv_iload hx hb dX5_addCode_96 (lv_at hl 5 rfl) ?_
                  refine lv_iadd hx hb dX5_addCode_98 ?_
                  refine lv_iconst (v := nI 1) hx hb dX5_addCode_99 ci_1 ?_
                  refine lv_iadd hx hb dX5_addCode_100 ?_
                  refine lv_istore (lv' := [(5, .int ((((nI 11) * (acN (ac2 x1 x2) x3)) + x4) + (nI 1))), (0, .ref y0), (1, .int x1), (2, .int x2), (3, .int x3), (4, .int x4)]) hx hb dX5_addCode_101 hl (by decide) rfl (fun ls hl => ?_)
                  rw [show (((nI 11) * (acN (ac2 x1 x2) x3)) + x4) + (nI 1) = acK x1 x2 x3 x4 from (by unfold acK; conv => { rhs; unfold acN }; first | exact (if_pos c_88).symm | exact (if_neg c_88).symm)] at hl
                  refine lv_aload_n hx hb dX5_addCode_103 rfl (lv_at hl 1 rfl) ?_
                  refine va_get (v := .int (nI k)) hx hb hts hi_5 hown hK hP 0 rfl rfl 1 (by decide) f_36 (fun _ h => h) rfl dX5_addCode_104 ?_
                  refine z_bipush (n := 8) hx hb rfl (by decide) dX5_addCode_107 ?_
                  refine z_icmp_ne (tgt := 116) hx hb dX5_addCode_109 (by decide) (by omega) (by omega) (fun c_109 => ?_) (fun c_109 => ?_)
                  · refine lv_iconst (v := nI 0) hx hb dX5_addCode_116 ci_0 ?_
                    refine lv_istore (lv' := [(6, .int (nI 0)), (5, .int (acK x1 x2 x3 x4)), (0, .ref y0), (1, .int x1), (2, .int x2), (3, .int x3), (4, .int x4)]) hx hb dX5_addCode_117 hl (by decide) rfl (fun ls hl => ?_)
                    refine lv_iconst (v := nI 0) hx hb dX5_addCode_119 ci_0 ?_
                    refine lv_istore (lv' := [(7, .int (nI 0)), (6, .int (nI 0)), (5, .int (acK x1 x2 x3 x4)), (0, .ref y0), (1, .int x1), (2, .int x2), (3, .int x3), (4, .int x4)]) hx hb dX5_addCode_120 hl (by decide) rfl (fun ls hl => ?_)
                    have lp_122 : ∀ (Nf : Nat) (i : Nat) (fl : Nat) (hi : i ≤ k) (hf1 : fl ≤ 1) (hfl : (fl = 1 ∧ acDm K k (acK x1 x2 x3 x4) i) ∨ (fl = 0 ∧ ¬ acDm K k (acK x1 x2 x3 x4) i)) (hN : k - i < Nf) (H : Heap) (locs : List Loc) (ls : Array Slot), va_P D vwCl [(y0, .inr (5, [.int (nI 0), .int (nI k), .ref y1, .ref y2, .int (nI n), .ref y3, .int (nI q), .int (nI sg), .int rp, .int lo, .int ea, .ref y4, .ref y5, .int (nI go), .int (nI ak), .int (nI gn), .int (nI gf)])), (y1, .inl (cI, 9, .inl K)), (y2, .inl (cI, 9, .inl (nA Lm)))] H → va_S A sv.heap H locs → lv_has ls 8 [(7, .int (nI i)), (6, .int (nI fl)), (5, .int (acK x1 x2 x3 x4)), (0, .ref y0), (1, .int x1), (2, .int x2), (3, .int x3), (4, .int x4)] → W pg l ev rm_X5_addCode sv mi ag bl mt cd H locs 0 0 Q (F0 mi 122 ls []) := by
                      intro Nf
                      induction Nf with
                      | zero =>
                        intro i fl hi hf1 hfl hN
                        exact absurd hN (Nat.not_lt_zero _)
                      | succ Nf ih_122 =>
                        intro i fl hi hf1 hfl hN H locs ls hP hS hl
                        refine lv_iload hx hb dX5_addCode_122 (lv_at hl 0 rfl) ?_
                        refine lv_aload_n hx hb dX5_addCode_124 rfl (lv_at hl 3 rfl) ?_
                        refine va_get (v := .int (nI k)) hx hb hts hi_5 hown hK hP 0 rfl rfl 1 (by decide) f_36 (fun _ h => h) rfl dX5_addCode_125 ?_
                        refine z_icmp_ge (tgt := 161) hx hb dX5_addCode_128 (by decide) (by omega) (by omega) (fun c_128 => ?_) (fun c_128 => ?_)
                        · refine lv_iload hx hb dX5_addCode_161 (lv_at hl 1 rfl) ?_
                          refine z_if_eq (tgt := 172) hx hb dX5_addCode_163 (by decide) (by omega) (fun c_163 => ?_) (fun c_163 => ?_)
                          · refine lv_aload_n hx hb dX5_addCode_172 rfl (lv_at hl 3 rfl) ?_
                            refine va_get (v := .ref y1) hx hb hts hi_5 hown hK hP 0 rfl rfl 2 (by decide) f_9 (fun _ h => h) rfl dX5_addCode_173 ?_
                            refine lv_aload_n hx hb dX5_addCode_176 rfl (lv_at hl 3 rfl) ?_
                            refine va_get (v := .int (nI k)) hx hb hts hi_5 hown hK hP 0 rfl rfl 1 (by decide) f_36 (fun _ h => h) rfl dX5_addCode_177 ?_
                            refine lv_iload hx hb dX5_addCode_180 (lv_at hl 2 rfl) ?_
                            refine z_iast hx hb hK hP hD rfl hS 1 0 rfl rfl (by omega) (by decide) dX5_addCode_182 (fun H locs hP hS => ?_)
                            have hP : va_P D vwCl [(y0, .inr (5, [.int (nI 0), .int (nI k), .ref y1, .ref y2, .int (nI n), .ref y3, .int (nI q), .int (nI sg), .int rp, .int lo, .int ea, .ref y4, .ref y5, .int (nI go), .int (nI ak), .int (nI gn), .int (nI gf)])), (y1, .inl (cI, 9, .inl (upd K k (acK x1 x2 x3 x4)))), (y2, .inl (cI, 9, .inl (nA Lm)))] H := hP
                            refine lv_aload_n hx hb dX5_addCode_183 rfl (lv_at hl 3 rfl) ?_
                            refine va_get (v := .ref y2) hx hb hts hi_5 hown hK hP 0 rfl rfl 3 (by decide) f_13 (fun _ h => h) rfl dX5_addCode_184 ?_
                            refine lv_aload_n hx hb dX5_addCode_187 rfl (lv_at hl 3 rfl) ?_
                            refine va_get (v := .int (nI k)) hx hb hts hi_5 hown hK hP 0 rfl rfl 1 (by decide) f_36 (fun _ h => h) rfl dX5_addCode_188 ?_
                            refine lv_iload_n hx hb dX5_addCode_191 rfl (lv_at hl 6 rfl) ?_
                            refine lv_iconst (v := -1) hx hb dX5_addCode_192 ci_m1 ?_
                            refine lv_icmp_ne (tgt := 200) hx hb dX5_addCode_193 (by decide) (fun c_193 => ?_) (fun c_193 => ?_)
                            · refine lv_iload hx hb dX5_addCode_200 (lv_at hl 7 rfl) ?_
                              refine lv_iconst (v := -1) hx hb dX5_addCode_202 ci_m1 ?_
                              refine lv_icmp_ne (tgt := 210) hx hb dX5_addCode_203 (by decide) (fun c_203 => ?_) (fun c_203 => ?_)
                              · refine lv_iconst (v := nI 4) hx hb dX5_addCode_210 ci_4 ?_
                                refine z_iastN hx hb hK hP hD rfl hS 2 0 rfl rfl (by omega) (by decide) dX5_addCode_211 (fun H locs hP hS => ?_)
                                have hP : va_P D vwCl [(y0, .inr (5, [.int (nI 0), .int (nI k), .ref y1, .ref y2, .int (nI n), .ref y3, .int (nI q), .int (nI sg), .int rp, .int lo, .int ea, .ref y4, .ref y5, .int (nI go), .int (nI ak), .int (nI gn), .int (nI gf)])), (y1, .inl (cI, 9, .inl (upd K k (acK x1 x2 x3 x4)))), (y2, .inl (cI, 9, .inl (nA (updN Lm k 4))))] H := hP
                                refine lv_aload_n hx hb dX5_addCode_212 rfl (lv_at hl 3 rfl) ?_
                                refine lv_dup hx hb dX5_addCode_213 rfl ?_
                                refine va_get (v := .int (nI k)) hx hb hts hi_5 hown hK hP 0 rfl rfl 1 (by decide) f_36 (fun _ h => h) rfl dX5_addCode_214 ?_
                                refine lv_iconst (v := nI 1) hx hb dX5_addCode_217 ci_1 ?_
                                refine z_iadd hx hb dX5_addCode_218 ?_
                                refine z_put hx hb hts hi_5 tyX5 tyX5_ok nmX5 hown hK hP hD rfl hS 0 rfl rfl 1 (by decide) f_36 (fun _ h => h) rfl (by decide +kernel) (Nat.le_of_ble_eq_true rfl) dX5_addCode_219 (fun H locs hP hS => ?_)
                                have hP : va_P D vwCl [(y0, .inr (5, [.int (nI 0), .int (nI (k + 1)), .ref y1, .ref y2, .int (nI n), .ref y3, .int (nI q), .int (nI sg), .int rp, .int lo, .int ea, .ref y4, .ref y5, .int (nI go), .int (nI ak), .int (nI gn), .int (nI gf)])), (y1, .inl (cI, 9, .inl (upd K k (acK x1 x2 x3 x4)))), (y2, .inl (cI, 9, .inl (nA (updN Lm k 4))))] H := hP
                                refine lv_aload_n hx hb dX5_addCode_222 rfl (lv_at hl 3 rfl) ?_
                                refine va_get (v := .int (nI (k + 1))) hx hb hts hi_5 hown hK hP 0 rfl rfl 1 (by decide) f_36 (fun _ h => h) rfl dX5_addCode_223 ?_
                                refine lv_iconst (v := nI 1) hx hb dX5_addCode_226 ci_1 ?_
                                refine z_isub hx hb dX5_addCode_227 (by omega) ?_
                                exact mu_iret hA hQ hx hb hr hlocks (0, k + 1, nI ((k + 1) - 1), upd K k (acK x1 x2 x3 x4), updN Lm k 4) hP hS ⟨rfl, Or.inl ⟨hnb, ad_r hfl (by omega) (by omega), rfl, rfl, rfl, rfl, (by first | (rw [clen, if_neg c_203]; done) | (rw [clen, if_pos c_203, if_neg c_193]; done) | (rw [clen, if_pos (ad_4 hnb c_193), if_pos c_193]; done))⟩⟩ dX5_addCode_228
                              · refine lv_iconst (v := nI 3) hx hb dX5_addCode_206 ci_3 ?_
                                refine lv_goto (tgt := 211) hx hb dX5_addCode_207 (by decide) ?_
                                refine z_iastN hx hb hK hP hD rfl hS 2 0 rfl rfl (by omega) (by decide) dX5_addCode_211 (fun H locs hP hS => ?_)
                                have hP : va_P D vwCl [(y0, .inr (5, [.int (nI 0), .int (nI k), .ref y1, .ref y2, .int (nI n), .ref y3, .int (nI q), .int (nI sg), .int rp, .int lo, .int ea, .ref y4, .ref y5, .int (nI go), .int (nI ak), .int (nI gn), .int (nI gf)])), (y1, .inl (cI, 9, .inl (upd K k (acK x1 x2 x3 x4)))), (y2, .inl (cI, 9, .inl (nA (updN Lm k 3))))] H := hP
                                refine lv_aload_n hx hb dX5_addCode_212 rfl (lv_at hl 3 rfl) ?_
                                refine lv_dup hx hb dX5_addCode_213 rfl ?_
                                refine va_get (v := .int (nI k)) hx hb hts hi_5 hown hK hP 0 rfl rfl 1 (by decide) f_36 (fun _ h => h) rfl dX5_addCode_214 ?_
                                refine lv_iconst (v := nI 1) hx hb dX5_addCode_217 ci_1 ?_
                                refine z_iadd hx hb dX5_addCode_218 ?_
                                refine z_put hx hb hts hi_5 tyX5 tyX5_ok nmX5 hown hK hP hD rfl hS 0 rfl rfl 1 (by decide) f_36 (fun _ h => h) rfl (by decide +kernel) (Nat.le_of_ble_eq_true rfl) dX5_addCode_219 (fun H locs hP hS => ?_)
                                have hP : va_P D vwCl [(y0, .inr (5, [.int (nI 0), .int (nI (k + 1)), .ref y1, .ref y2, .int (nI n), .ref y3, .int (nI q), .int (nI sg), .int rp, .int lo, .int ea, .ref y4, .ref y5, .int (nI go), .int (nI ak), .int (nI gn), .int (nI gf)])), (y1, .inl (cI, 9, .inl (upd K k (acK x1 x2 x3 x4)))), (y2, .inl (cI, 9, .inl (nA (updN Lm k 3))))] H := hP
                                refine lv_aload_n hx hb dX5_addCode_222 rfl (lv_at hl 3 rfl) ?_
                                refine va_get (v := .int (nI (k + 1))) hx hb hts hi_5 hown hK hP 0 rfl rfl 1 (by decide) f_36 (fun _ h => h) rfl dX5_addCode_223 ?_
                                refine lv_iconst (v := nI 1) hx hb dX5_addCode_226 ci_1 ?_
                                refine z_isub hx hb dX5_addCode_227 (by omega) ?_
                                exact mu_iret hA hQ hx hb hr hlocks (0, k + 1, nI ((k + 1) - 1), upd K k (acK x1 x2 x3 x4), updN Lm k 3) hP hS ⟨rfl, Or.inl ⟨hnb, ad_r hfl (by omega) (by omega), rfl, rfl, rfl, rfl, (by first | (rw [clen, if_neg c_203]; done) | (rw [clen, if_pos c_203, if_neg c_193]; done) | (rw [clen, if_pos (ad_4 hnb c_193), if_pos c_193]; done))⟩⟩ dX5_addCode_228
                            · refine lv_iconst (v := nI 2) hx hb dX5_addCode_196 ci_2 ?_
                              refine lv_goto (tgt := 211) hx hb dX5_addCode_197 (by decide) ?_
                              refine z_iastN hx hb hK hP hD rfl hS 2 0 rfl rfl (by omega) (by decide) dX5_addCode_211 (fun H locs hP hS => ?_)
                              have hP : va_P D vwCl [(y0, .inr (5, [.int (nI 0), .int (nI k), .ref y1, .ref y2, .int (nI n), .ref y3, .int (nI q), .int (nI sg), .int rp, .int lo, .int ea, .ref y4, .ref y5, .int (nI go), .int (nI ak), .int (nI gn), .int (nI gf)])), (y1, .inl (cI, 9, .inl (upd K k (acK x1 x2 x3 x4)))), (y2, .inl (cI, 9, .inl (nA (updN Lm k 2))))] H := hP
                              refine lv_aload_n hx hb dX5_addCode_212 rfl (lv_at hl 3 rfl) ?_
                              refine lv_dup hx hb dX5_addCode_213 rfl ?_
                              refine va_get (v := .int (nI k)) hx hb hts hi_5 hown hK hP 0 rfl rfl 1 (by decide) f_36 (fun _ h => h) rfl dX5_addCode_214 ?_
                              refine lv_iconst (v := nI 1) hx hb dX5_addCode_217 ci_1 ?_
                              refine z_iadd hx hb dX5_addCode_218 ?_
                              refine z_put hx hb hts hi_5 tyX5 tyX5_ok nmX5 hown hK hP hD rfl hS 0 rfl rfl 1 (by decide) f_36 (fun _ h => h) rfl (by decide +kernel) (Nat.le_of_ble_eq_true rfl) dX5_addCode_219 (fun H locs hP hS => ?_)
                              have hP : va_P D vwCl [(y0, .inr (5, [.int (nI 0), .int (nI (k + 1)), .ref y1, .ref y2, .int (nI n), .ref y3, .int (nI q), .int (nI sg), .int rp, .int lo, .int ea, .ref y4, .ref y5, .int (nI go), .int (nI ak), .int (nI gn), .int (nI gf)])), (y1, .inl (cI, 9, .inl (upd K k (acK x1 x2 x3 x4)))), (y2, .inl (cI, 9, .inl (nA (updN Lm k 2))))] H := hP
                              refine lv_aload_n hx hb dX5_addCode_222 rfl (lv_at hl 3 rfl) ?_
                              refine va_get (v := .int (nI (k + 1))) hx hb hts hi_5 hown hK hP 0 rfl rfl 1 (by decide) f_36 (fun _ h => h) rfl dX5_addCode_223 ?_
                              refine lv_iconst (v := nI 1) hx hb dX5_addCode_226 ci_1 ?_
                              refine z_isub hx hb dX5_addCode_227 (by omega) ?_
                              exact mu_iret hA hQ hx hb hr hlocks (0, k + 1, nI ((k + 1) - 1), upd K k (acK x1 x2 x3 x4), updN Lm k 2) hP hS ⟨rfl, Or.inl ⟨hnb, ad_r hfl (by omega) (by omega), rfl, rfl, rfl, rfl, (by first | (rw [clen, if_neg c_203]; done) | (rw [clen, if_pos c_203, if_neg c_193]; done) | (rw [clen, if_pos (ad_4 hnb c_193), if_pos c_193]; done))⟩⟩ dX5_addCode_228
                          · refine lv_aload_n hx hb dX5_addCode_166 rfl (lv_at hl 3 rfl) ?_
                            refine lv_iconst (v := nI 2) hx hb dX5_addCode_167 ci_2 ?_
                            refine z_muV (As := [.int (nI 2)]) (rest := []) ⟨hx, hb, hml, hown, hts⟩ (c_X5_fail l D cI y0 y1 y2 y3 y4 y5 0 k n q sg rp lo ea go ak gn gf 2) (cwV 1 hts gX5_addCode_X5_fail rfl rfl rfl hd_X5_fail ⟨Nat.le_of_ble_eq_true rfl, Nat.le_of_ble_eq_true rfl⟩) ⟨hK, hE⟩ hP hD rfl hS [0] (by decide) rfl (fun _ => rfl) (va_recv hK hP (ci := 5) (q0 := 0) rfl rfl) rfl hl.1 rfl (Nat.le_of_ble_eq_true rfl) dX5_addCode_168 (Nat.zero_le _) (Nat.zero_le _) (fun v9 u9 H locs hp hP hS => ?_)
                            obtain rfl := hp
                            have hP : va_P D vwCl [(y0, .inr (5, [.int (nI 2), .int (nI k), .ref y1, .ref y2, .int (nI n), .ref y3, .int (nI q), .int (nI sg), .int rp, .int lo, .int ea, .ref y4, .ref y5, .int (nI go), .int (nI ak), .int (nI gn), .int (nI gf)])), (y1, .inl (cI, 9, .inl K)), (y2, .inl (cI, 9, .inl (nA Lm)))] H := hP
                            refine W.eq (g2 := F0 mi 171 ls [.int (nI 0)]) rfl ?_
                            exact mu_iret hA hQ hx hb hr hlocks (2, k, nI 0, K, Lm) hP hS ⟨rfl, Or.inr (Or.inr ⟨hnb, ad_q hfl (by omega) (by omega), rfl, rfl, rfl, rfl, rfl⟩)⟩ dX5_addCode_171
                        · refine lv_iload hx hb dX5_addCode_131 (lv_at hl 1 rfl) ?_
                          refine z_if_ne (tgt := 148) hx hb dX5_addCode_133 (by decide) (by omega) (fun c_133 => ?_) (fun c_133 => ?_)
                          · refine lv_iconst (v := nI 1) hx hb dX5_addCode_148 ci_1 ?_
                            refine lv_goto (tgt := 153) hx hb dX5_addCode_149 (by decide) ?_
                            refine lv_istore (lv' := [(6, .int (nI 1)), (7, .int (nI i)), (5, .int (acK x1 x2 x3 x4)), (0, .ref y0), (1, .int x1), (2, .int x2), (3, .int x3), (4, .int x4)]) hx hb dX5_addCode_153 hl (by decide) rfl (fun ls hl => ?_)
                            refine lv_iinc (v := nI (i + 1)) (lv' := [(7, .int (nI (i + 1))), (6, .int (nI 1)), (5, .int (acK x1 x2 x3 x4)), (0, .ref y0), (1, .int x1), (2, .int x2), (3, .int x3), (4, .int x4)]) hx hb dX5_addCode_155 hl (k := 1) rfl (z_inc1 _) (by decide) rfl (fun ls hl => ?_)
                            refine lv_goto (tgt := 122) hx hb dX5_addCode_158 (by decide) ?_
                            exact ih_122 (i + 1) 1 (by omega) (by decide) (by first | exact Or.inl ⟨rfl, ad_p hfl c_133⟩ | exact Or.inl ⟨rfl, Or.inr ⟨i, Nat.lt_succ_self i, c_145⟩⟩ | exact Or.inr ⟨rfl, ad_n hfl c_133 c_145⟩) (by omega) H locs ls hP hS (lv_sub hl [0, 1, 2, 3, 4, 5, 6, 7] rfl)
                          · refine lv_aload_n hx hb dX5_addCode_136 rfl (lv_at hl 3 rfl) ?_
                            refine va_get (v := .ref y1) hx hb hts hi_5 hown hK hP 0 rfl rfl 2 (by decide) f_9 (fun _ h => h) rfl dX5_addCode_137 ?_
                            refine lv_iload hx hb dX5_addCode_140 (lv_at hl 0 rfl) ?_
                            refine z_iald hx hb hK hP 1 0 rfl rfl (by omega) (by decide) dX5_addCode_142 ?_
                            refine lv_iload hx hb dX5_addCode_143 (lv_at hl 2 rfl) ?_
                            refine lv_icmp_ne (tgt := 152) hx hb dX5_addCode_145 (by decide) (fun c_145 => ?_) (fun c_145 => ?_)
                            · refine lv_iconst (v := nI 0) hx hb dX5_addCode_152 ci_0 ?_
                              refine lv_istore (lv' := [(6, .int (nI 0)), (7, .int (nI i)), (5, .int (acK x1 x2 x3 x4)), (0, .ref y0), (1, .int x1), (2, .int x2), (3, .int x3), (4, .int x4)]) hx hb dX5_addCode_153 hl (by decide) rfl (fun ls hl => ?_)
                              refine lv_iinc (v := nI (i + 1)) (lv' := [(7, .int (nI (i + 1))), (6, .int (nI 0)), (5, .int (acK x1 x2 x3 x4)), (0, .ref y0), (1, .int x1), (2, .int x2), (3, .int x3), (4, .int x4)]) hx hb dX5_addCode_155 hl (k := 1) rfl (z_inc1 _) (by decide) rfl (fun ls hl => ?_)
                              refine lv_goto (tgt := 122) hx hb dX5_addCode_158 (by decide) ?_
                              exact ih_122 (i + 1) 0 (by omega) (by decide) (by first | exact Or.inl ⟨rfl, ad_p hfl c_133⟩ | exact Or.inl ⟨rfl, Or.inr ⟨i, Nat.lt_succ_self i, c_145⟩⟩ | exact Or.inr ⟨rfl, ad_n hfl c_133 c_145⟩) (by omega) H locs ls hP hS (lv_sub hl [0, 1, 2, 3, 4, 5, 6, 7] rfl)
                            · refine lv_iconst (v := nI 1) hx hb dX5_addCode_148 ci_1 ?_
                              refine lv_goto (tgt := 153) hx hb dX5_addCode_149 (by decide) ?_
                              refine lv_istore (lv' := [(6, .int (nI 1)), (7, .int (nI i)), (5, .int (acK x1 x2 x3 x4)), (0, .ref y0), (1, .int x1), (2, .int x2), (3, .int x3), (4, .int x4)]) hx hb dX5_addCode_153 hl (by decide) rfl (fun ls hl => ?_)
                              refine lv_iinc (v := nI (i + 1)) (lv' := [(7, .int (nI (i + 1))), (6, .int (nI 1)), (5, .int (acK x1 x2 x3 x4)), (0, .ref y0), (1, .int x1), (2, .int x2), (3, .int x3), (4, .int x4)]) hx hb dX5_addCode_155 hl (k := 1) rfl (z_inc1 _) (by decide) rfl (fun ls hl => ?_)
                              refine lv_goto (tgt := 122) hx hb dX5_addCode_158 (by decide) ?_
                              exact ih_122 (i + 1) 1 (by omega) (by decide) (by first | exact Or.inl ⟨rfl, ad_p hfl c_133⟩ | exact Or.inl ⟨rfl, Or.inr ⟨i, Nat.lt_succ_self i, c_145⟩⟩ | exact Or.inr ⟨rfl, ad_n hfl c_133 c_145⟩) (by omega) H locs ls hP hS (lv_sub hl [0, 1, 2, 3, 4, 5, 6, 7] rfl)
                    exact lp_122 ((k - 0) + 1) 0 0 (Nat.zero_le _) (by decide) (by first | exact Or.inl ⟨rfl, Or.inl c_109⟩ | exact Or.inr ⟨rfl, fun z => z.elim c_109 (fun ⟨c, hc, _⟩ => absurd hc (Nat.not_lt_zero _))⟩) (Nat.lt_succ_self _) H locs ls hP hS hl
                  · refine lv_iconst (v := nI 1) hx hb dX5_addCode_112 ci_1 ?_
                    refine lv_goto (tgt := 117) hx hb dX5_addCode_113 (by decide) ?_
                    refine lv_istore (lv' := [(6, .int (nI 1)), (5, .int (acK x1 x2 x3 x4)), (0, .ref y0), (1, .int x1), (2, .int x2), (3, .int x3), (4, .int x4)]) hx hb dX5_addCode_117 hl (by decide) rfl (fun ls hl => ?_)
                    refine lv_iconst (v := nI 0) hx hb dX5_addCode_119 ci_0 ?_
                    refine lv_istore (lv' := [(7, .int (nI 0)), (6, .int (nI 1)), (5, .int (acK x1 x2 x3 x4)), (0, .ref y0), (1, .int x1), (2, .int x2), (3, .int x3), (4, .int x4)]) hx hb dX5_addCode_120 hl (by decide) rfl (fun ls hl => ?_)
                    have lp_122 : ∀ (Nf : Nat) (i : Nat) (fl : Nat) (hi : i ≤ k) (hf1 : fl ≤ 1) (hfl : (fl = 1 ∧ acDm K k (acK x1 x2 x3 x4) i) ∨ (fl = 0 ∧ ¬ acDm K k (acK x1 x2 x3 x4) i)) (hN : k - i < Nf) (H : Heap) (locs : List Loc) (ls : Array Slot), va_P D vwCl [(y0, .inr (5, [.int (nI 0), .int (nI k), .ref y1, .ref y2, .int (nI n), .ref y3, .int (nI q), .int (nI sg), .int rp, .int lo, .int ea, .ref y4, .ref y5, .int (nI go), .int (nI ak), .int (nI gn), .int (nI gf)])), (y1, .inl (cI, 9, .inl K)), (y2, .inl (cI, 9, .inl (nA Lm)))] H → va_S A sv.heap H locs → lv_has ls 8 [(7, .int (nI i)), (6, .int (nI fl)), (5, .int (acK x1 x2 x3 x4)), (0, .ref y0), (1, .int x1), (2, .int x2), (3, .int x3), (4, .int x4)] → W pg l ev rm_X5_addCode sv mi ag bl mt cd H locs 0 0 Q (F0 mi 122 ls []) := by
                      intro Nf
                      induction Nf with
                      | zero =>
                        intro i fl hi hf1 hfl hN
                        exact absurd hN (Nat.not_lt_zero _)
                      | succ Nf ih_122 =>
                        intro i fl hi hf1 hfl hN H locs ls hP hS hl
                        refine lv_iload hx hb dX5_addCode_122 (lv_at hl 0 rfl) ?_
                        refine lv_aload_n hx hb dX5_addCode_124 rfl (lv_at hl 3 rfl) ?_
                        refine va_get (v := .int (nI k)) hx hb hts hi_5 hown hK hP 0 rfl rfl 1 (by decide) f_36 (fun _ h => h) rfl dX5_addCode_125 ?_
                        refine z_icmp_ge (tgt := 161) hx hb dX5_addCode_128 (by decide) (by omega) (by omega) (fun c_128 => ?_) (fun c_128 => ?_)
                        · refine lv_iload hx hb dX5_addCode_161 (lv_at hl 1 rfl) ?_
                          refine z_if_eq (tgt := 172) hx hb dX5_addCode_163 (by decide) (by omega) (fun c_163 => ?_) (fun c_163 => ?_)
                          · refine lv_aload_n hx hb dX5_addCode_172 rfl (lv_at hl 3 rfl) ?_
                            refine va_get (v := .ref y1) hx hb hts hi_5 hown hK hP 0 rfl rfl 2 (by decide) f_9 (fun _ h => h) rfl dX5_addCode_173 ?_
                            refine lv_aload_n hx hb dX5_addCode_176 rfl (lv_at hl 3 rfl) ?_
                            refine va_get (v := .int (nI k)) hx hb hts hi_5 hown hK hP 0 rfl rfl 1 (by decide) f_36 (fun _ h => h) rfl dX5_addCode_177 ?_
                            refine lv_iload hx hb dX5_addCode_180 (lv_at hl 2 rfl) ?_
                            refine z_iast hx hb hK hP hD rfl hS 1 0 rfl rfl (by omega) (by decide) dX5_addCode_182 (fun H locs hP hS => ?_)
                            have hP : va_P D vwCl [(y0, .inr (5, [.int (nI 0), .int (nI k), .ref y1, .ref y2, .int (nI n), .ref y3, .int (nI q), .int (nI sg), .int rp, .int lo, .int ea, .ref y4, .ref y5, .int (nI go), .int (nI ak), .int (nI gn), .int (nI gf)])), (y1, .inl (cI, 9, .inl (upd K k (acK x1 x2 x3 x4)))), (y2, .inl (cI, 9, .inl (nA Lm)))] H := hP
                            refine lv_aload_n hx hb dX5_addCode_183 rfl (lv_at hl 3 rfl) ?_
                            refine va_get (v := .ref y2) hx hb hts hi_5 hown hK hP 0 rfl rfl 3 (by decide) f_13 (fun _ h => h) rfl dX5_addCode_184 ?_
                            refine lv_aload_n hx hb dX5_addCode_187 rfl (lv_at hl 3 rfl) ?_
                            refine va_get (v := .int (nI k)) hx hb hts hi_5 hown hK hP 0 rfl rfl 1 (by decide) f_36 (fun _ h => h) rfl dX5_addCode_188 ?_
                            refine lv_iload_n hx hb dX5_addCode_191 rfl (lv_at hl 6 rfl) ?_
                            refine lv_iconst (v := -1) hx hb dX5_addCode_192 ci_m1 ?_
                            refine lv_icmp_ne (tgt := 200) hx hb dX5_addCode_193 (by decide) (fun c_193 => ?_) (fun c_193 => ?_)
                            · refine lv_iload hx hb dX5_addCode_200 (lv_at hl 7 rfl) ?_
                              refine lv_iconst (v := -1) hx hb dX5_addCode_202 ci_m1 ?_
                              refine lv_icmp_ne (tgt := 210) hx hb dX5_addCode_203 (by decide) (fun c_203 => ?_) (fun c_203 => ?_)
                              · refine lv_iconst (v := nI 4) hx hb dX5_addCode_210 ci_4 ?_
                                refine z_iastN hx hb hK hP hD rfl hS 2 0 rfl rfl (by omega) (by decide) dX5_addCode_211 (fun H locs hP hS => ?_)
                                have hP : va_P D vwCl [(y0, .inr (5, [.int (nI 0), .int (nI k), .ref y1, .ref y2, .int (nI n), .ref y3, .int (nI q), .int (nI sg), .int rp, .int lo, .int ea, .ref y4, .ref y5, .int (nI go), .int (nI ak), .int (nI gn), .int (nI gf)])), (y1, .inl (cI, 9, .inl (upd K k (acK x1 x2 x3 x4)))), (y2, .inl (cI, 9, .inl (nA (updN Lm k 4))))] H := hP
                                refine lv_aload_n hx hb dX5_addCode_212 rfl (lv_at hl 3 rfl) ?_
                                refine lv_dup hx hb dX5_addCode_213 rfl ?_
                                refine va_get (v := .int (nI k)) hx hb hts hi_5 hown hK hP 0 rfl rfl 1 (by decide) f_36 (fun _ h => h) rfl dX5_addCode_214 ?_
                                refine lv_iconst (v := nI 1) hx hb dX5_addCode_217 ci_1 ?_
                                refine z_iadd hx hb dX5_addCode_218 ?_
                                refine z_put hx hb hts hi_5 tyX5 tyX5_ok nmX5 hown hK hP hD rfl hS 0 rfl rfl 1 (by decide) f_36 (fun _ h => h) rfl (by decide +kernel) (Nat.le_of_ble_eq_true rfl) dX5_addCode_219 (fun H locs hP hS => ?_)
                                have hP : va_P D vwCl [(y0, .inr (5, [.int (nI 0), .int (nI (k + 1)), .ref y1, .ref y2, .int (nI n), .ref y3, .int (nI q), .int (nI sg), .int rp, .int lo, .int ea, .ref y4, .ref y5, .int (nI go), .int (nI ak), .int (nI gn), .int (nI gf)])), (y1, .inl (cI, 9, .inl (upd K k (acK x1 x2 x3 x4)))), (y2, .inl (cI, 9, .inl (nA (updN Lm k 4))))] H := hP
                                refine lv_aload_n hx hb dX5_addCode_222 rfl (lv_at hl 3 rfl) ?_
                                refine va_get (v := .int (nI (k + 1))) hx hb hts hi_5 hown hK hP 0 rfl rfl 1 (by decide) f_36 (fun _ h => h) rfl dX5_addCode_223 ?_
                                refine lv_iconst (v := nI 1) hx hb dX5_addCode_226 ci_1 ?_
                                refine z_isub hx hb dX5_addCode_227 (by omega) ?_
                                exact mu_iret hA hQ hx hb hr hlocks (0, k + 1, nI ((k + 1) - 1), upd K k (acK x1 x2 x3 x4), updN Lm k 4) hP hS ⟨rfl, Or.inl ⟨hnb, ad_r hfl (by omega) (by omega), rfl, rfl, rfl, rfl, (by first | (rw [clen, if_neg c_203]; done) | (rw [clen, if_pos c_203, if_neg c_193]; done) | (rw [clen, if_pos (ad_4 hnb c_193), if_pos c_193]; done))⟩⟩ dX5_addCode_228
                              · refine lv_iconst (v := nI 3) hx hb dX5_addCode_206 ci_3 ?_
                                refine lv_goto (tgt := 211) hx hb dX5_addCode_207 (by decide) ?_
                                refine z_iastN hx hb hK hP hD rfl hS 2 0 rfl rfl (by omega) (by decide) dX5_addCode_211 (fun H locs hP hS => ?_)
                                have hP : va_P D vwCl [(y0, .inr (5, [.int (nI 0), .int (nI k), .ref y1, .ref y2, .int (nI n), .ref y3, .int (nI q), .int (nI sg), .int rp, .int lo, .int ea, .ref y4, .ref y5, .int (nI go), .int (nI ak), .int (nI gn), .int (nI gf)])), (y1, .inl (cI, 9, .inl (upd K k (acK x1 x2 x3 x4)))), (y2, .inl (cI, 9, .inl (nA (updN Lm k 3))))] H := hP
                                refine lv_aload_n hx hb dX5_addCode_212 rfl (lv_at hl 3 rfl) ?_
                                refine lv_dup hx hb dX5_addCode_213 rfl ?_
                                refine va_get (v := .int (nI k)) hx hb hts hi_5 hown hK hP 0 rfl rfl 1 (by decide) f_36 (fun _ h => h) rfl dX5_addCode_214 ?_
                                refine lv_iconst (v := nI 1) hx hb dX5_addCode_217 ci_1 ?_
                                refine z_iadd hx hb dX5_addCode_218 ?_
                                refine z_put hx hb hts hi_5 tyX5 tyX5_ok nmX5 hown hK hP hD rfl hS 0 rfl rfl 1 (by decide) f_36 (fun _ h => h) rfl (by decide +kernel) (Nat.le_of_ble_eq_true rfl) dX5_addCode_219 (fun H locs hP hS => ?_)
                                have hP : va_P D vwCl [(y0, .inr (5, [.int (nI 0), .int (nI (k + 1)), .ref y1, .ref y2, .int (nI n), .ref y3, .int (nI q), .int (nI sg), .int rp, .int lo, .int ea, .ref y4, .ref y5, .int (nI go), .int (nI ak), .int (nI gn), .int (nI gf)])), (y1, .inl (cI, 9, .inl (upd K k (acK x1 x2 x3 x4)))), (y2, .inl (cI, 9, .inl (nA (updN Lm k 3))))] H := hP
                                refine lv_aload_n hx hb dX5_addCode_222 rfl (lv_at hl 3 rfl) ?_
                                refine va_get (v := .int (nI (k + 1))) hx hb hts hi_5 hown hK hP 0 rfl rfl 1 (by decide) f_36 (fun _ h => h) rfl dX5_addCode_223 ?_
                                refine lv_iconst (v := nI 1) hx hb dX5_addCode_226 ci_1 ?_
                                refine z_isub hx hb dX5_addCode_227 (by omega) ?_
                                exact mu_iret hA hQ hx hb hr hlocks (0, k + 1, nI ((k + 1) - 1), upd K k (acK x1 x2 x3 x4), updN Lm k 3) hP hS ⟨rfl, Or.inl ⟨hnb, ad_r hfl (by omega) (by omega), rfl, rfl, rfl, rfl, (by first | (rw [clen, if_neg c_203]; done) | (rw [clen, if_pos c_203, if_neg c_193]; done) | (rw [clen, if_pos (ad_4 hnb c_193), if_pos c_193]; done))⟩⟩ dX5_addCode_228
                            · refine lv_iconst (v := nI 2) hx hb dX5_addCode_196 ci_2 ?_
                              refine lv_goto (tgt := 211) hx hb dX5_addCode_197 (by decide) ?_
                              refine z_iastN hx hb hK hP hD rfl hS 2 0 rfl rfl (by omega) (by decide) dX5_addCode_211 (fun H locs hP hS => ?_)
                              have hP : va_P D vwCl [(y0, .inr (5, [.int (nI 0), .int (nI k), .ref y1, .ref y2, .int (nI n), .ref y3, .int (nI q), .int (nI sg), .int rp, .int lo, .int ea, .ref y4, .ref y5, .int (nI go), .int (nI ak), .int (nI gn), .int (nI gf)])), (y1, .inl (cI, 9, .inl (upd K k (acK x1 x2 x3 x4)))), (y2, .inl (cI, 9, .inl (nA (updN Lm k 2))))] H := hP
                              refine lv_aload_n hx hb dX5_addCode_212 rfl (lv_at hl 3 rfl) ?_
                              refine lv_dup hx hb dX5_addCode_213 rfl ?_
                              refine va_get (v := .int (nI k)) hx hb hts hi_5 hown hK hP 0 rfl rfl 1 (by decide) f_36 (fun _ h => h) rfl dX5_addCode_214 ?_
                              refine lv_iconst (v := nI 1) hx hb dX5_addCode_217 ci_1 ?_
                              refine z_iadd hx hb dX5_addCode_218 ?_
                              refine z_put hx hb hts hi_5 tyX5 tyX5_ok nmX5 hown hK hP hD rfl hS 0 rfl rfl 1 (by decide) f_36 (fun _ h => h) rfl (by decide +kernel) (Nat.le_of_ble_eq_true rfl) dX5_addCode_219 (fun H locs hP hS => ?_)
                              have hP : va_P D vwCl [(y0, .inr (5, [.int (nI 0), .int (nI (k + 1)), .ref y1, .ref y2, .int (nI n), .ref y3, .int (nI q), .int (nI sg), .int rp, .int lo, .int ea, .ref y4, .ref y5, .int (nI go), .int (nI ak), .int (nI gn), .int (nI gf)])), (y1, .inl (cI, 9, .inl (upd K k (acK x1 x2 x3 x4)))), (y2, .inl (cI, 9, .inl (nA (updN Lm k 2))))] H := hP
                              refine lv_aload_n hx hb dX5_addCode_222 rfl (lv_at hl 3 rfl) ?_
                              refine va_get (v := .int (nI (k + 1))) hx hb hts hi_5 hown hK hP 0 rfl rfl 1 (by decide) f_36 (fun _ h => h) rfl dX5_addCode_223 ?_
                              refine lv_iconst (v := nI 1) hx hb dX5_addCode_226 ci_1 ?_
                              refine z_isub hx hb dX5_addCode_227 (by omega) ?_
                              exact mu_iret hA hQ hx hb hr hlocks (0, k + 1, nI ((k + 1) - 1), upd K k (acK x1 x2 x3 x4), updN Lm k 2) hP hS ⟨rfl, Or.inl ⟨hnb, ad_r hfl (by omega) (by omega), rfl, rfl, rfl, rfl, (by first | (rw [clen, if_neg c_203]; done) | (rw [clen, if_pos c_203, if_neg c_193]; done) | (rw [clen, if_pos (ad_4 hnb c_193), if_pos c_193]; done))⟩⟩ dX5_addCode_228
                          · refine lv_aload_n hx hb dX5_addCode_166 rfl (lv_at hl 3 rfl) ?_
                            refine lv_iconst (v := nI 2) hx hb dX5_addCode_167 ci_2 ?_
                            refine z_muV (As := [.int (nI 2)]) (rest := []) ⟨hx, hb, hml, hown, hts⟩ (c_X5_fail l D cI y0 y1 y2 y3 y4 y5 0 k n q sg rp lo ea go ak gn gf 2) (cwV 1 hts gX5_addCode_X5_fail rfl rfl rfl hd_X5_fail ⟨Nat.le_of_ble_eq_true rfl, Nat.le_of_ble_eq_true rfl⟩) ⟨hK, hE⟩ hP hD rfl hS [0] (by decide) rfl (fun _ => rfl) (va_recv hK hP (ci := 5) (q0 := 0) rfl rfl) rfl hl.1 rfl (Nat.le_of_ble_eq_true rfl) dX5_addCode_168 (Nat.zero_le _) (Nat.zero_le _) (fun v9 u9 H locs hp hP hS => ?_)
                            obtain rfl := hp
                            have hP : va_P D vwCl [(y0, .inr (5, [.int (nI 2), .int (nI k), .ref y1, .ref y2, .int (nI n), .ref y3, .int (nI q), .int (nI sg), .int rp, .int lo, .int ea, .ref y4, .ref y5, .int (nI go), .int (nI ak), .int (nI gn), .int (nI gf)])), (y1, .inl (cI, 9, .inl K)), (y2, .inl (cI, 9, .inl (nA Lm)))] H := hP
                            refine W.eq (g2 := F0 mi 171 ls [.int (nI 0)]) rfl ?_
                            exact mu_iret hA hQ hx hb hr hlocks (2, k, nI 0, K, Lm) hP hS ⟨rfl, Or.inr (Or.inr ⟨hnb, ad_q hfl (by omega) (by omega), rfl, rfl, rfl, rfl, rfl⟩)⟩ dX5_addCode_171
                        · refine lv_iload hx hb dX5_addCode_131 (lv_at hl 1 rfl) ?_
                          refine z_if_ne (tgt := 148) hx hb dX5_addCode_133 (by decide) (by omega) (fun c_133 => ?_) (fun c_133 => ?_)
                          · refine lv_iconst (v := nI 1) hx hb dX5_addCode_148 ci_1 ?_
                            refine lv_goto (tgt := 153) hx hb dX5_addCode_149 (by decide) ?_
                            refine lv_istore (lv' := [(6, .int (nI 1)), (7, .int (nI i)), (5, .int (acK x1 x2 x3 x4)), (0, .ref y0), (1, .int x1), (2, .int x2), (3, .int x3), (4, .int x4)]) hx hb dX5_addCode_153 hl (by decide) rfl (fun ls hl => ?_)
                            refine lv_iinc (v := nI (i + 1)) (lv' := [(7, .int (nI (i + 1))), (6, .int (nI 1)), (5, .int (acK x1 x2 x3 x4)), (0, .ref y0), (1, .int x1), (2, .int x2), (3, .int x3), (4, .int x4)]) hx hb dX5_addCode_155 hl (k := 1) rfl (z_inc1 _) (by decide) rfl (fun ls hl => ?_)
                            refine lv_goto (tgt := 122) hx hb dX5_addCode_158 (by decide) ?_
                            exact ih_122 (i + 1) 1 (by omega) (by decide) (by first | exact Or.inl ⟨rfl, ad_p hfl c_133⟩ | exact Or.inl ⟨rfl, Or.inr ⟨i, Nat.lt_succ_self i, c_145⟩⟩ | exact Or.inr ⟨rfl, ad_n hfl c_133 c_145⟩) (by omega) H locs ls hP hS (lv_sub hl [0, 1, 2, 3, 4, 5, 6, 7] rfl)
                          · refine lv_aload_n hx hb dX5_addCode_136 rfl (lv_at hl 3 rfl) ?_
                            refine va_get (v := .ref y1) hx hb hts hi_5 hown hK hP 0 rfl rfl 2 (by decide) f_9 (fun _ h => h) rfl dX5_addCode_137 ?_
                            refine lv_iload hx hb dX5_addCode_140 (lv_at hl 0 rfl) ?_
                            refine z_iald hx hb hK hP 1 0 rfl rfl (by omega) (by decide) dX5_addCode_142 ?_
                            refine lv_iload hx hb dX5_addCode_143 (lv_at hl 2 rfl) ?_
                            refine lv_icmp_ne (tgt := 152) hx hb dX5_addCode_145 (by decide) (fun c_145 => ?_) (fun c_145 => ?_)
                            · refine lv_iconst (v := nI 0) hx hb dX5_addCode_152 ci_0 ?_
                              refine lv_istore (lv' := [(6, .int (nI 0)), (7, .int (nI i)), (5, .int (acK x1 x2 x3 x4)), (0, .ref y0), (1, .int x1), (2, .int x2), (3, .int x3), (4, .int x4)]) hx hb dX5_addCode_153 hl (by decide) rfl (fun ls hl => ?_)
                              refine lv_iinc (v := nI (i + 1)) (lv' := [(7, .int (nI (i + 1))), (6, .int (nI 0)), (5, .int (acK x1 x2 x3 x4)), (0, .ref y0), (1, .int x1), (2, .int x2), (3, .int x3), (4, .int x4)]) hx hb dX5_addCode_155 hl (k := 1) rfl (z_inc1 _) (by decide) rfl (fun ls hl => ?_)
                              refine lv_goto (tgt := 122) hx hb dX5_addCode_158 (by decide) ?_
                              exact ih_122 (i + 1) 0 (by omega) (by decide) (by first | exact Or.inl ⟨rfl, ad_p hfl c_133⟩ | exact Or.inl ⟨rfl, Or.inr ⟨i, Nat.lt_succ_self i, c_145⟩⟩ | exact Or.inr ⟨rfl, ad_n hfl c_133 c_145⟩) (by omega) H locs ls hP hS (lv_sub hl [0, 1, 2, 3, 4, 5, 6, 7] rfl)
                            · refine lv_iconst (v := nI 1) hx hb dX5_addCode_148 ci_1 ?_
                              refine lv_goto (tgt := 153) hx hb dX5_addCode_149 (by decide) ?_
                              refine lv_istore (lv' := [(6, .int (nI 1)), (7, .int (nI i)), (5, .int (acK x1 x2 x3 x4)), (0, .ref y0), (1, .int x1), (2, .int x2), (3, .int x3), (4, .int x4)]) hx hb dX5_addCode_153 hl (by decide) rfl (fun ls hl => ?_)
                              refine lv_iinc (v := nI (i + 1)) (lv' := [(7, .int (nI (i + 1))), (6, .int (nI 1)), (5, .int (acK x1 x2 x3 x4)), (0, .ref y0), (1, .int x1), (2, .int x2), (3, .int x3), (4, .int x4)]) hx hb dX5_addCode_155 hl (k := 1) rfl (z_inc1 _) (by decide) rfl (fun ls hl => ?_)
                              refine lv_goto (tgt := 122) hx hb dX5_addCode_158 (by decide) ?_
                              exact ih_122 (i + 1) 1 (by omega) (by decide) (by first | exact Or.inl ⟨rfl, ad_p hfl c_133⟩ | exact Or.inl ⟨rfl, Or.inr ⟨i, Nat.lt_succ_self i, c_145⟩⟩ | exact Or.inr ⟨rfl, ad_n hfl c_133 c_145⟩) (by omega) H locs ls hP hS (lv_sub hl [0, 1, 2, 3, 4, 5, 6, 7] rfl)
                    exact lp_122 ((k - 0) + 1) 0 1 (Nat.zero_le _) (by decide) (by first | exact Or.inl ⟨rfl, Or.inl c_109⟩ | exact Or.inr ⟨rfl, fun z => z.elim c_109 (fun ⟨c, hc, _⟩ => absurd hc (Nat.not_lt_zero _))⟩) (Nat.lt_succ_self _) H locs ls hP hS hl
              · refine z_bipush (n := 11) hx hb rfl (by decide) dX5_addCode_74 ?_
                refine lv_iload hx hb dX5_addCode_76 (lv_at hl 0 rfl) ?_
                refine lv_imul hx hb dX5_addCode_78 ?_
                refine lv_iload_n hx hb dX5_addCode_79 rfl (lv_at hl 4 rfl) ?_
                refine lv_iadd hx hb dX5_addCode_80 ?_
                refine lv_iconst (v := nI 1) hx hb dX5_addCode_81 ci_1 ?_
                refine lv_iadd hx hb dX5_addCode_82 ?_
                refine lv_istore (lv' := [(5, .int ((((nI 11) * (ac2 x1 x2)) + x3) + (nI 1))), (0, .ref y0), (1, .int x1), (2, .int x2), (3, .int x3), (4, .int x4)]) hx hb dX5_addCode_83 hl (by decide) rfl (fun ls hl => ?_)
                rw [show (((nI 11) * (ac2 x1 x2)) + x3) + (nI 1) = acN (ac2 x1 x2) x3 from (by unfold acN; first | exact (if_pos c_71).symm | exact (if_neg c_71).symm)] at hl
                refine lv_iload hx hb dX5_addCode_85 (lv_at hl 5 rfl) ?_
                refine lv_iconst (v := -1) hx hb dX5_addCode_87 ci_m1 ?_
                refine lv_icmp_eq (tgt := 103) hx hb dX5_addCode_88 (by decide) (fun c_88 => ?_) (fun c_88 => ?_)
                · rw [show acN (ac2 x1 x2) x3 = acK x1 x2 x3 x4 from (by unfold acK; conv => { rhs; unfold acN }; first | exact (if_pos c_88).symm | exact (if_neg c_88).symm)] at hl
                  refine lv_aload_n hx hb dX5_addCode_103 rfl (lv_at hl 1 rfl) ?_
                  refine va_get (v := .int (nI k)) hx hb hts hi_5 hown hK hP 0 rfl rfl 1 (by decide) f_36 (fun _ h => h) rfl dX5_addCode_104 ?_
                  refine z_bipush (n := 8) hx hb rfl (by decide) dX5_addCode_107 ?_
                  refine z_icmp_ne (tgt := 116) hx hb dX5_addCode_109 (by decide) (by omega) (by omega) (fun c_109 => ?_) (fun c_109 => ?_)
                  · refine lv_iconst (v := nI 0) hx hb dX5_addCode_116 ci_0 ?_
                    refine lv_istore (lv' := [(6, .int (nI 0)), (5, .int (acK x1 x2 x3 x4)), (0, .ref y0), (1, .int x1), (2, .int x2), (3, .int x3), (4, .int x4)]) hx hb dX5_addCode_117 hl (by decide) rfl (fun ls hl => ?_)
                    refine lv_iconst (v := nI 0) hx hb dX5_addCode_119 ci_0 ?_
                    refine lv_istore (lv' := [(7, .int (nI 0)), (6, .int (nI 0)), (5, .int (acK x1 x2 x3 x4)), (0, .ref y0), (1, .int x1), (2, .int x2), (3, .int x3), (4, .int x4)]) hx hb dX5_addCode_120 hl (by decide) rfl (fun ls hl => ?_)
                    have lp_122 : ∀ (Nf : Nat) (i : Nat) (fl : Nat) (hi : i ≤ k) (hf1 : fl ≤ 1) (hfl : (fl = 1 ∧ acDm K k (acK x1 x2 x3 x4) i) ∨ (fl = 0 ∧ ¬ acDm K k (acK x1 x2 x3 x4) i)) (hN : k - i < Nf) (H : Heap) (locs : List Loc) (ls : Array Slot), va_P D vwCl [(y0, .inr (5, [.int (nI 0), .int (nI k), .ref y1, .ref y2, .int (nI n), .ref y3, .int (nI q), .int (nI sg), .int rp, .int lo, .int ea, .ref y4, .ref y5, .int (nI go), .int (nI ak), .int (nI gn), .int (nI gf)])), (y1, .inl (cI, 9, .inl K)), (y2, .inl (cI, 9, .inl (nA Lm)))] H → va_S A sv.heap H locs → lv_has ls 8 [(7, .int (nI i)), (6, .int (nI fl)), (5, .int (acK x1 x2 x3 x4)), (0, .ref y0), (1, .int x1), (2, .int x2), (3, .int x3), (4, .int x4)] → W pg l ev rm_X5_addCode sv mi ag bl mt cd H locs 0 0 Q (F0 mi 122 ls []) := by
                      intro Nf
                      induction Nf with
                      | zero =>
                        intro i fl hi hf1 hfl hN
                        exact absurd hN (Nat.not_lt_zero _)
                      | succ Nf ih_122 =>
                        intro i fl hi hf1 hfl hN H locs ls hP hS hl
                        refine lv_iload hx hb dX5_addCode_122 (lv_at hl 0 rfl) ?_
                        refine lv_aload_n hx hb dX5_addCode_124 rfl (lv_at hl 3 rfl) ?_
                        refine va_get (v := .int (nI k)) hx hb hts hi_5 hown hK hP 0 rfl rfl 1 (by decide) f_36 (fun _ h => h) rfl dX5_addCode_125 ?_
                        refine z_icmp_ge (tgt := 161) hx hb dX5_addCode_128 (by decide) (by omega) (by omega) (fun c_128 => ?_) (fun c_128 => ?_)
                        · refine lv_iload hx hb dX5_addCode_161 (lv_at hl 1 rfl) ?_
                          refine z_if_eq (tgt := 172) hx hb dX5_addCode_163 (by decide) (by omega) (fun c_163 => ?_) (fun c_163 => ?_)
                          · refine lv_aload_n hx hb dX5_addCode_172 rfl (lv_at hl 3 rfl) ?_
                            refine va_get (v := .ref y1) hx hb hts hi_5 hown hK hP 0 rfl rfl 2 (by decide) f_9 (fun _ h => h) rfl dX5_addCode_173 ?_
                            refine lv_aload_n hx hb dX5_addCode_176 rfl (lv_at hl 3 rfl) ?_
                            refine va_get (v := .int (nI k)) hx hb hts hi_5 hown hK hP 0 rfl rfl 1 (by decide) f_36 (fun _ h => h) rfl dX5_addCode_177 ?_
                            refine lv_iload hx hb dX5_addCode_180 (lv_at hl 2 rfl) ?_
                            refine z_iast hx hb hK hP hD rfl hS 1 0 rfl rfl (by omega) (by decide) dX5_addCode_182 (fun H locs hP hS => ?_)
                            have hP : va_P D vwCl [(y0, .inr (5, [.int (nI 0), .int (nI k), .ref y1, .ref y2, .int (nI n), .ref y3, .int (nI q), .int (nI sg), .int rp, .int lo, .int ea, .ref y4, .ref y5, .int (nI go), .int (nI ak), .int (nI gn), .int (nI gf)])), (y1, .inl (cI, 9, .inl (upd K k (acK x1 x2 x3 x4)))), (y2, .inl (cI, 9, .inl (nA Lm)))] H := hP
                            refine lv_aload_n hx hb dX5_addCode_183 rfl (lv_at hl 3 rfl) ?_
                            refine va_get (v := .ref y2) hx hb hts hi_5 hown hK hP 0 rfl rfl 3 (by decide) f_13 (fun _ h => h) rfl dX5_addCode_184 ?_
                            refine lv_aload_n hx hb dX5_addCode_187 rfl (lv_at hl 3 rfl) ?_
                            refine va_get (v := .int (nI k)) hx hb hts hi_5 hown hK hP 0 rfl rfl 1 (by decide) f_36 (fun _ h => h) rfl dX5_addCode_188 ?_
                            refine lv_iload_n hx hb dX5_addCode_191 rfl (lv_at hl 6 rfl) ?_
                            refine lv_iconst (v := -1) hx hb dX5_addCode_192 ci_m1 ?_
                            refine lv_icmp_ne (tgt := 200) hx hb dX5_addCode_193 (by decide) (fun c_193 => ?_) (fun c_193 => ?_)
                            · refine lv_iload hx hb dX5_addCode_200 (lv_at hl 7 rfl) ?_
                              refine lv_iconst (v := -1) hx hb dX5_addCode_202 ci_m1 ?_
                              refine lv_icmp_ne (tgt := 210) hx hb dX5_addCode_203 (by decide) (fun c_203 => ?_) (fun c_203 => ?_)
                              · refine lv_iconst (v := nI 4) hx hb dX5_addCode_210 ci_4 ?_
                                refine z_iastN hx hb hK hP hD rfl hS 2 0 rfl rfl (by omega) (by decide) dX5_addCode_211 (fun H locs hP hS => ?_)
                                have hP : va_P D vwCl [(y0, .inr (5, [.int (nI 0), .int (nI k), .ref y1, .ref y2, .int (nI n), .ref y3, .int (nI q), .int (nI sg), .int rp, .int lo, .int ea, .ref y4, .ref y5, .int (nI go), .int (nI ak), .int (nI gn), .int (nI gf)])), (y1, .inl (cI, 9, .inl (upd K k (acK x1 x2 x3 x4)))), (y2, .inl (cI, 9, .inl (nA (updN Lm k 4))))] H := hP
                                refine lv_aload_n hx hb dX5_addCode_212 rfl (lv_at hl 3 rfl) ?_
                                refine lv_dup hx hb dX5_addCode_213 rfl ?_
                                refine va_get (v := .int (nI k)) hx hb hts hi_5 hown hK hP 0 rfl rfl 1 (by decide) f_36 (fun _ h => h) rfl dX5_addCode_214 ?_
                                refine lv_iconst (v := nI 1) hx hb dX5_addCode_217 ci_1 ?_
                                refine z_iadd hx hb dX5_addCode_218 ?_
                                refine z_put hx hb hts hi_5 tyX5 tyX5_ok nmX5 hown hK hP hD rfl hS 0 rfl rfl 1 (by decide) f_36 (fun _ h => h) rfl (by decide +kernel) (Nat.le_of_ble_eq_true rfl) dX5_addCode_219 (fun H locs hP hS => ?_)
                                have hP : va_P D vwCl [(y0, .inr (5, [.int (nI 0), .int (nI (k + 1)), .ref y1, .ref y2, .int (nI n), .ref y3, .int (nI q), .int (nI sg), .int rp, .int lo, .int ea, .ref y4, .ref y5, .int (nI go), .int (nI ak), .int (nI gn), .int (nI gf)])), (y1, .inl (cI, 9, .inl (upd K k (acK x1 x2 x3 x4)))), (y2, .inl (cI, 9, .inl (nA (updN Lm k 4))))] H := hP
                                refine lv_aload_n hx hb dX5_addCode_222 rfl (lv_at hl 3 rfl) ?_
                                refine va_get (v := .int (nI (k + 1))) hx hb hts hi_5 hown hK hP 0 rfl rfl 1 (by decide) f_36 (fun _ h => h) rfl dX5_addCode_223 ?_
                                refine lv_iconst (v := nI 1) hx hb dX5_addCode_226 ci_1 ?_
                                refine z_isub hx hb dX5_addCode_227 (by omega) ?_
                                exact mu_iret hA hQ hx hb hr hlocks (0, k + 1, nI ((k + 1) - 1), upd K k (acK x1 x2 x3 x4), updN Lm k 4) hP hS ⟨rfl, Or.inl ⟨hnb, ad_r hfl (by omega) (by omega), rfl, rfl, rfl, rfl, (by first | (rw [clen, if_neg c_203]; done) | (rw [clen, if_pos c_203, if_neg c_193]; done) | (rw [clen, if_pos (ad_4 hnb c_193), if_pos c_193]; done))⟩⟩ dX5_addCode_228
                              · refine lv_iconst (v := nI 3) hx hb dX5_addCode_206 ci_3 ?_
                                refine lv_goto (tgt := 211) hx hb dX5_addCode_207 (by decide) ?_
                                refine z_iastN hx hb hK hP hD rfl hS 2 0 rfl rfl (by omega) (by decide) dX5_addCode_211 (fun H locs hP hS => ?_)
                                have hP : va_P D vwCl [(y0, .inr (5, [.int (nI 0), .int (nI k), .ref y1, .ref y2, .int (nI n), .ref y3, .int (nI q), .int (nI sg), .int rp, .int lo, .int ea, .ref y4, .ref y5, .int (nI go), .int (nI ak), .int (nI gn), .int (nI gf)])), (y1, .inl (cI, 9, .inl (upd K k (acK x1 x2 x3 x4)))), (y2, .inl (cI, 9, .inl (nA (updN Lm k 3))))] H := hP
                                refine lv_aload_n hx hb dX5_addCode_212 rfl (lv_at hl 3 rfl) ?_
                                refine lv_dup hx hb dX5_addCode_213 rfl ?_
                                refine va_get (v := .int (nI k)) hx hb hts hi_5 hown hK hP 0 rfl rfl 1 (by decide) f_36 (fun _ h => h) rfl dX5_addCode_214 ?_
                                refine lv_iconst (v := nI 1) hx hb dX5_addCode_217 ci_1 ?_
                                refine z_iadd hx hb dX5_addCode_218 ?_
                                refine z_put hx hb hts hi_5 tyX5 tyX5_ok nmX5 hown hK hP hD rfl hS 0 rfl rfl 1 (by decide) f_36 (fun _ h => h) rfl (by decide +kernel) (Nat.le_of_ble_eq_true rfl) dX5_addCode_219 (fun H locs hP hS => ?_)
                                have hP : va_P D vwCl [(y0, .inr (5, [.int (nI 0), .int (nI (k + 1)), .ref y1, .ref y2, .int (nI n), .ref y3, .int (nI q), .int (nI sg), .int rp, .int lo, .int ea, .ref y4, .ref y5, .int (nI go), .int (nI ak), .int (nI gn), .int (nI gf)])), (y1, .inl (cI, 9, .inl (upd K k (acK x1 x2 x3 x4)))), (y2, .inl (cI, 9, .inl (nA (updN Lm k 3))))] H := hP
                                refine lv_aload_n hx hb dX5_addCode_222 rfl (lv_at hl 3 rfl) ?_
                                refine va_get (v := .int (nI (k + 1))) hx hb hts hi_5 hown hK hP 0 rfl rfl 1 (by decide) f_36 (fun _ h => h) rfl dX5_addCode_223 ?_
                                refine lv_iconst (v := nI 1) hx hb dX5_addCode_226 ci_1 ?_
                                refine z_isub hx hb dX5_addCode_227 (by omega) ?_
                                exact mu_iret hA hQ hx hb hr hlocks (0, k + 1, nI ((k + 1) - 1), upd K k (acK x1 x2 x3 x4), updN Lm k 3) hP hS ⟨rfl, Or.inl ⟨hnb, ad_r hfl (by omega) (by omega), rfl, rfl, rfl, rfl, (by first | (rw [clen, if_neg c_203]; done) | (rw [clen, if_pos c_203, if_neg c_193]; done) | (rw [clen, if_pos (ad_4 hnb c_193), if_pos c_193]; done))⟩⟩ dX5_addCode_228
                            · refine lv_iconst (v := nI 2) hx hb dX5_addCode_196 ci_2 ?_
                              refine lv_goto (tgt := 211) hx hb dX5_addCode_197 (by decide) ?_
                              refine z_iastN hx hb hK hP hD rfl hS 2 0 rfl rfl (by omega) (by decide) dX5_addCode_211 (fun H locs hP hS => ?_)
                              have hP : va_P D vwCl [(y0, .inr (5, [.int (nI 0), .int (nI k), .ref y1, .ref y2, .int (nI n), .ref y3, .int (nI q), .int (nI sg), .int rp, .int lo, .int ea, .ref y4, .ref y5, .int (nI go), .int (nI ak), .int (nI gn), .int (nI gf)])), (y1, .inl (cI, 9, .inl (upd K k (acK x1 x2 x3 x4)))), (y2, .inl (cI, 9, .inl (nA (updN Lm k 2))))] H := hP
                              refine lv_aload_n hx hb dX5_addCode_212 rfl (lv_at hl 3 rfl) ?_
                              refine lv_dup hx hb dX5_addCode_213 rfl ?_
                              refine va_get (v := .int (nI k)) hx hb hts hi_5 hown hK hP 0 rfl rfl 1 (by decide) f_36 (fun _ h => h) rfl dX5_addCode_214 ?_
                              refine lv_iconst (v := nI 1) hx hb dX5_addCode_217 ci_1 ?_
                              refine z_iadd hx hb dX5_addCode_218 ?_
                              refine z_put hx hb hts hi_5 tyX5 tyX5_ok nmX5 hown hK hP hD rfl hS 0 rfl rfl 1 (by decide) f_36 (fun _ h => h) rfl (by decide +kernel) (Nat.le_of_ble_eq_true rfl) dX5_addCode_219 (fun H locs hP hS => ?_)
                              have hP : va_P D vwCl [(y0, .inr (5, [.int (nI 0), .int (nI (k + 1)), .ref y1, .ref y2, .int (nI n), .ref y3, .int (nI q), .int (nI sg), .int rp, .int lo, .int ea, .ref y4, .ref y5, .int (nI go), .int (nI ak), .int (nI gn), .int (nI gf)])), (y1, .inl (cI, 9, .inl (upd K k (acK x1 x2 x3 x4)))), (y2, .inl (cI, 9, .inl (nA (updN Lm k 2))))] H := hP
                              refine lv_aload_n hx hb dX5_addCode_222 rfl (lv_at hl 3 rfl) ?_
                              refine va_get (v := .int (nI (k + 1))) hx hb hts hi_5 hown hK hP 0 rfl rfl 1 (by decide) f_36 (fun _ h => h) rfl dX5_addCode_223 ?_
                              refine lv_iconst (v := nI 1) hx hb dX5_addCode_226 ci_1 ?_
                              refine z_isub hx hb dX5_addCode_227 (by omega) ?_
                              exact mu_iret hA hQ hx hb hr hlocks (0, k + 1, nI ((k + 1) - 1), upd K k (acK x1 x2 x3 x4), updN Lm k 2) hP hS ⟨rfl, Or.inl ⟨hnb, ad_r hfl (by omega) (by omega), rfl, rfl, rfl, rfl, (by first | (rw [clen, if_neg c_203]; done) | (rw [clen, if_pos c_203, if_neg c_193]; done) | (rw [clen, if_pos (ad_4 hnb c_193), if_pos c_193]; done))⟩⟩ dX5_addCode_228
                          · refine lv_aload_n hx hb dX5_addCode_166 rfl (lv_at hl 3 rfl) ?_
                            refine lv_iconst (v := nI 2) hx hb dX5_addCode_167 ci_2 ?_
                            refine z_muV (As := [.int (nI 2)]) (rest := []) ⟨hx, hb, hml, hown, hts⟩ (c_X5_fail l D cI y0 y1 y2 y3 y4 y5 0 k n q sg rp lo ea go ak gn gf 2) (cwV 1 hts gX5_addCode_X5_fail rfl rfl rfl hd_X5_fail ⟨Nat.le_of_ble_eq_true rfl, Nat.le_of_ble_eq_true rfl⟩) ⟨hK, hE⟩ hP hD rfl hS [0] (by decide) rfl (fun _ => rfl) (va_recv hK hP (ci := 5) (q0 := 0) rfl rfl) rfl hl.1 rfl (Nat.le_of_ble_eq_true rfl) dX5_addCode_168 (Nat.zero_le _) (Nat.zero_le _) (fun v9 u9 H locs hp hP hS => ?_)
                            obtain rfl := hp
                            have hP : va_P D vwCl [(y0, .inr (5, [.int (nI 2), .int (nI k), .ref y1, .ref y2, .int (nI n), .ref y3, .int (nI q), .int (nI sg), .int rp, .int lo, .int ea, .ref y4, .ref y5, .int (nI go), .int (nI ak), .int (nI gn), .int (nI gf)])), (y1, .inl (cI, 9, .inl K)), (y2, .inl (cI, 9, .inl (nA Lm)))] H := hP
                            refine W.eq (g2 := F0 mi 171 ls [.int (nI 0)]) rfl ?_
                            exact mu_iret hA hQ hx hb hr hlocks (2, k, nI 0, K, Lm) hP hS ⟨rfl, Or.inr (Or.inr ⟨hnb, ad_q hfl (by omega) (by omega), rfl, rfl, rfl, rfl, rfl⟩)⟩ dX5_addCode_171
                        · refine lv_iload hx hb dX5_addCode_131 (lv_at hl 1 rfl) ?_
                          refine z_if_ne (tgt := 148) hx hb dX5_addCode_133 (by decide) (by omega) (fun c_133 => ?_) (fun c_133 => ?_)
                          · refine lv_iconst (v := nI 1) hx hb dX5_addCode_148 ci_1 ?_
                            refine lv_goto (tgt := 153) hx hb dX5_addCode_149 (by decide) ?_
                            refine lv_istore (lv' := [(6, .int (nI 1)), (7, .int (nI i)), (5, .int (acK x1 x2 x3 x4)), (0, .ref y0), (1, .int x1), (2, .int x2), (3, .int x3), (4, .int x4)]) hx hb dX5_addCode_153 hl (by decide) rfl (fun ls hl => ?_)
                            refine lv_iinc (v := nI (i + 1)) (lv' := [(7, .int (nI (i + 1))), (6, .int (nI 1)), (5, .int (acK x1 x2 x3 x4)), (0, .ref y0), (1, .int x1), (2, .int x2), (3, .int x3), (4, .int x4)]) hx hb dX5_addCode_155 hl (k := 1) rfl (z_inc1 _) (by decide) rfl (fun ls hl => ?_)
                            refine lv_goto (tgt := 122) hx hb dX5_addCode_158 (by decide) ?_
                            exact ih_122 (i + 1) 1 (by omega) (by decide) (by first | exact Or.inl ⟨rfl, ad_p hfl c_133⟩ | exact Or.inl ⟨rfl, Or.inr ⟨i, Nat.lt_succ_self i, c_145⟩⟩ | exact Or.inr ⟨rfl, ad_n hfl c_133 c_145⟩) (by omega) H locs ls hP hS (lv_sub hl [0, 1, 2, 3, 4, 5, 6, 7] rfl)
                          · refine lv_aload_n hx hb dX5_addCode_136 rfl (lv_at hl 3 rfl) ?_
                            refine va_get (v := .ref y1) hx hb hts hi_5 hown hK hP 0 rfl rfl 2 (by decide) f_9 (fun _ h => h) rfl dX5_addCode_137 ?_
                            refine lv_iload hx hb dX5_addCode_140 (lv_at hl 0 rfl) ?_
                            refine z_iald hx hb hK hP 1 0 rfl rfl (by omega) (by decide) dX5_addCode_142 ?_
                            refine lv_iload hx hb dX5_addCode_143 (lv_at hl 2 rfl) ?_
                            refine lv_icmp_ne (tgt := 152) hx hb dX5_addCode_145 (by decide) (fun c_145 => ?_) (fun c_145 => ?_)
                            · refine lv_iconst (v := nI 0) hx hb dX5_addCode_152 ci_0 ?_
                              refine lv_istore (lv' := [(6, .int (nI 0)), (7, .int (nI i)), (5, .int (acK x1 x2 x3 x4)), (0, .ref y0), (1, .int x1), (2, .int x2), (3, .int x3), (4, .int x4)]) hx hb dX5_addCode_153 hl (by decide) rfl (fun ls hl => ?_)
                              refine lv_iinc (v := nI (i + 1)) (lv' := [(7, .int (nI (i + 1))), (6, .int (nI 0)), (5, .int (acK x1 x2 x3 x4)), (0, .ref y0), (1, .int x1), (2, .int x2), (3, .int x3), (4, .int x4)]) hx hb dX5_addCode_155 hl (k := 1) rfl (z_inc1 _) (by decide) rfl (fun ls hl => ?_)
                              refine lv_goto (tgt := 122) hx hb dX5_addCode_158 (by decide) ?_
                              exact ih_122 (i + 1) 0 (by omega) (by decide) (by first | exact Or.inl ⟨rfl, ad_p hfl c_133⟩ | exact Or.inl ⟨rfl, Or.inr ⟨i, Nat.lt_succ_self i, c_145⟩⟩ | exact Or.inr ⟨rfl, ad_n hfl c_133 c_145⟩) (by omega) H locs ls hP hS (lv_sub hl [0, 1, 2, 3, 4, 5, 6, 7] rfl)
                            · refine lv_iconst (v := nI 1) hx hb dX5_addCode_148 ci_1 ?_
                              refine lv_goto (tgt := 153) hx hb dX5_addCode_149 (by decide) ?_
                              refine lv_istore (lv' := [(6, .int (nI 1)), (7, .int (nI i)), (5, .int (acK x1 x2 x3 x4)), (0, .ref y0), (1, .int x1), (2, .int x2), (3, .int x3), (4, .int x4)]) hx hb dX5_addCode_153 hl (by decide) rfl (fun ls hl => ?_)
                              refine lv_iinc (v := nI (i + 1)) (lv' := [(7, .int (nI (i + 1))), (6, .int (nI 1)), (5, .int (acK x1 x2 x3 x4)), (0, .ref y0), (1, .int x1), (2, .int x2), (3, .int x3), (4, .int x4)]) hx hb dX5_addCode_155 hl (k := 1) rfl (z_inc1 _) (by decide) rfl (fun ls hl => ?_)
                              refine lv_goto (tgt := 122) hx hb dX5_addCode_158 (by decide) ?_
                              exact ih_122 (i + 1) 1 (by omega) (by decide) (by first | exact Or.inl ⟨rfl, ad_p hfl c_133⟩ | exact Or.inl ⟨rfl, Or.inr ⟨i, Nat.lt_succ_self i, c_145⟩⟩ | exact Or.inr ⟨rfl, ad_n hfl c_133 c_145⟩) (by omega) H locs ls hP hS (lv_sub hl [0, 1, 2, 3, 4, 5, 6, 7] rfl)
                    exact lp_122 ((k - 0) + 1) 0 0 (Nat.zero_le _) (by decide) (by first | exact Or.inl ⟨rfl, Or.inl c_109⟩ | exact Or.inr ⟨rfl, fun z => z.elim c_109 (fun ⟨c, hc, _⟩ => absurd hc (Nat.not_lt_zero _))⟩) (Nat.lt_succ_self _) H locs ls hP hS hl
                  · refine lv_iconst (v := nI 1) hx hb dX5_addCode_112 ci_1 ?_
                    refine lv_goto (tgt := 117) hx hb dX5_addCode_113 (by decide) ?_
                    refine lv_istore (lv' := [(6, .int (nI 1)), (5, .int (acK x1 x2 x3 x4)), (0, .ref y0), (1, .int x1), (2, .int x2), (3, .int x3), (4, .int x4)]) hx hb dX5_addCode_117 hl (by decide) rfl (fun ls hl => ?_)
                    refine lv_iconst (v := nI 0) hx hb dX5_addCode_119 ci_0 ?_
                    refine lv_istore (lv' := [(7, .int (nI 0)), (6, .int (nI 1)), (5, .int (acK x1 x2 x3 x4)), (0, .ref y0), (1, .int x1), (2, .int x2), (3, .int x3), (4, .int x4)]) hx hb dX5_addCode_120 hl (by decide) rfl (fun ls hl => ?_)
                    have lp_122 : ∀ (Nf : Nat) (i : Nat) (fl : Nat) (hi : i ≤ k) (hf1 : fl ≤ 1) (hfl : (fl = 1 ∧ acDm K k (acK x1 x2 x3 x4) i) ∨ (fl = 0 ∧ ¬ acDm K k (acK x1 x2 x3 x4) i)) (hN : k - i < Nf) (H : Heap) (locs : List Loc) (ls : Array Slot), va_P D vwCl [(y0, .inr (5, [.int (nI 0), .int (nI k), .ref y1, .ref y2, .int (nI n), .ref y3, .int (nI q), .int (nI sg), .int rp, .int lo, .int ea, .ref y4, .ref y5, .int (nI go), .int (nI ak), .int (nI gn), .int (nI gf)])), (y1, .inl (cI, 9, .inl K)), (y2, .inl (cI, 9, .inl (nA Lm)))] H → va_S A sv.heap H locs → lv_has ls 8 [(7, .int (nI i)), (6, .int (nI fl)), (5, .int (acK x1 x2 x3 x4)), (0, .ref y0), (1, .int x1), (2, .int x2), (3, .int x3), (4, .int x4)] → W pg l ev rm_X5_addCode sv mi ag bl mt cd H locs 0 0 Q (F0 mi 122 ls []) := by
                      intro Nf
                      induction Nf with
                      | zero =>
                        intro i fl hi hf1 hfl hN
                        exact absurd hN (Nat.not_lt_zero _)
                      | succ Nf ih_122 =>
                        intro i fl hi hf1 hfl hN H locs ls hP hS hl
                        refine lv_iload hx hb dX5_addCode_122 (lv_at hl 0 rfl) ?_
                        refine lv_aload_n hx hb dX5_addCode_124 rfl (lv_at hl 3 rfl) ?_
                        refine va_get (v := .int (nI k)) hx hb hts hi_5 hown hK hP 0 rfl rfl 1 (by decide) f_36 (fun _ h => h) rfl dX5_addCode_125 ?_
                        refine z_icmp_ge (tgt := 161) hx hb dX5_addCode_128 (by decide) (by omega) (by omega) (fun c_128 => ?_) (fun c_128 => ?_)
                        · refine lv_iload hx hb dX5_addCode_161 (lv_at hl 1 rfl) ?_
                          refine z_if_eq (tgt := 172) hx hb dX5_addCode_163 (by decide) (by omega) (fun c_163 => ?_) (fun c_163 => ?_)
                          · refine lv_aload_n hx hb dX5_addCode_172 rfl (lv_at hl 3 rfl) ?_
                            refine va_get (v := .ref y1) hx hb hts hi_5 hown hK hP 0 rfl rfl 2 (by decide) f_9 (fun _ h => h) rfl dX5_addCode_173 ?_
                            refine lv_aload_n hx hb dX5_addCode_176 rfl (lv_at hl 3 rfl) ?_
                            refine va_get (v := .int (nI k)) hx hb hts hi_5 hown hK hP 0 rfl rfl 1 (by decide) f_36 (fun _ h => h) rfl dX5_addCode_177 ?_
                            refine lv_iload hx hb dX5_addCode_180 (lv_at hl 2 rfl) ?_
                            refine z_iast hx hb hK hP hD rfl hS 1 0 rfl rfl (by omega) (by decide) dX5_addCode_182 (fun H locs hP hS => ?_)
                            have hP : va_P D vwCl [(y0, .inr (5, [.int (nI 0), .int (nI k), .ref y1, .ref y2, .int (nI n), .ref y3, .int (nI q), .int (nI sg), .int rp, .int lo, .int ea, .ref y4, .ref y5, .int (nI go), .int (nI ak), .int (nI gn), .int (nI gf)])), (y1, .inl (cI, 9, .inl (upd K k (acK x1 x2 x3 x4)))), (y2, .inl (cI, 9, .inl (nA Lm)))] H := hP
                            refine lv_aload_n hx hb dX5_addCode_183 rfl (lv_at hl 3 rfl) ?_
                            refine va_get (v := .ref y2) hx hb hts hi_5 hown hK hP 0 rfl rfl 3 (by decide) f_13 (fun _ h => h) rfl dX5_addCode_184 ?_
                            refine lv_aload_n hx hb dX5_addCode_187 rfl (lv_at hl 3 rfl) ?_
                            refine va_get (v := .int (nI k)) hx hb hts hi_5 hown hK hP 0 rfl rfl 1 (by decide) f_36 (fun _ h => h) rfl dX5_addCode_188 ?_
                            refine lv_iload_n hx hb dX5_addCode_191 rfl (lv_at hl 6 rfl) ?_
                            refine lv_iconst (v := -1) hx hb dX5_addCode_192 ci_m1 ?_
                            refine lv_icmp_ne (tgt := 200) hx hb dX5_addCode_193 (by decide) (fun c_193 => ?_) (fun c_193 => ?_)
                            · refine lv_iload hx hb dX5_addCode_200 (lv_at hl 7 rfl) ?_
                              refine lv_iconst (v := -1) hx hb dX5_addCode_202 ci_m1 ?_
                              refine lv_icmp_ne (tgt := 210) hx hb dX5_addCode_203 (by decide) (fun c_203 => ?_) (fun c_203 => ?_)
                              · refine lv_iconst (v := nI 4) hx hb dX5_addCode_210 ci_4 ?_
                                refine z_iastN hx hb hK hP hD rfl hS 2 0 rfl rfl (by omega) (by decide) dX5_addCode_211 (fun H locs hP hS => ?_)
                                have hP : va_P D vwCl [(y0, .inr (5, [.int (nI 0), .int (nI k), .ref y1, .ref y2, .int (nI n), .ref y3, .int (nI q), .int (nI sg), .int rp, .int lo, .int ea, .ref y4, .ref y5, .int (nI go), .int (nI ak), .int (nI gn), .int (nI gf)])), (y1, .inl (cI, 9, .inl (upd K k (acK x1 x2 x3 x4)))), (y2, .inl (cI, 9, .inl (nA (updN Lm k 4))))] H := hP
                                refine lv_aload_n hx hb dX5_addCode_212 rfl (lv_at hl 3 rfl) ?_
                                refine lv_dup hx hb dX5_addCode_213 rfl ?_
                                refine va_get (v := .int (nI k)) hx hb hts hi_5 hown hK hP 0 rfl rfl 1 (by decide) f_36 (fun _ h => h) rfl dX5_addCode_214 ?_
                                refine lv_iconst (v := nI 1) hx hb dX5_addCode_217 ci_1 ?_
                                refine z_iadd hx hb dX5_addCode_218 ?_
                                refine z_put hx hb hts hi_5 tyX5 tyX5_ok nmX5 hown hK hP hD rfl hS 0 rfl rfl 1 (by decide) f_36 (fun _ h => h) rfl (by decide +kernel) (Nat.le_of_ble_eq_true rfl) dX5_addCode_219 (fun H locs hP hS => ?_)
                                have hP : va_P D vwCl [(y0, .inr (5, [.int (nI 0), .int (nI (k + 1)), .ref y1, .ref y2, .int (nI n), .ref y3, .int (nI q), .int (nI sg), .int rp, .int lo, .int ea, .ref y4, .ref y5, .int (nI go), .int (nI ak), .int (nI gn), .int (nI gf)])), (y1, .inl (cI, 9, .inl (upd K k (acK x1 x2 x3 x4)))), (y2, .inl (cI, 9, .inl (nA (updN Lm k 4))))] H := hP
                                refine lv_aload_n hx hb dX5_addCode_222 rfl (lv_at hl 3 rfl) ?_
                                refine va_get (v := .int (nI (k + 1))) hx hb hts hi_5 hown hK hP 0 rfl rfl 1 (by decide) f_36 (fun _ h => h) rfl dX5_addCode_223 ?_
                                refine lv_iconst (v := nI 1) hx hb dX5_addCode_226 ci_1 ?_
                                refine z_isub hx hb dX5_addCode_227 (by omega) ?_
                                exact mu_iret hA hQ hx hb hr hlocks (0, k + 1, nI ((k + 1) - 1), upd K k (acK x1 x2 x3 x4), updN Lm k 4) hP hS ⟨rfl, Or.inl ⟨hnb, ad_r hfl (by omega) (by omega), rfl, rfl, rfl, rfl, (by first | (rw [clen, if_neg c_203]; done) | (rw [clen, if_pos c_203, if_neg c_193]; done) | (rw [clen, if_pos (ad_4 hnb c_193), if_pos c_193]; done))⟩⟩ dX5_addCode_228
                              · refine lv_iconst (v := nI 3) hx hb dX5_addCode_206 ci_3 ?_
                                refine lv_goto (tgt := 211) hx hb dX5_addCode_207 (by decide) ?_
                                refine z_iastN hx hb hK hP hD rfl hS 2 0 rfl rfl (by omega) (by decide) dX5_addCode_211 (fun H locs hP hS => ?_)
                                have hP : va_P D vwCl [(y0, .inr (5, [.int (nI 0), .int (nI k), .ref y1, .ref y2, .int (nI n), .ref y3, .int (nI q), .int (nI sg), .int rp, .int lo, .int ea, .ref y4, .ref y5, .int (nI go), .int (nI ak), .int (nI gn), .int (nI gf)])), (y1, .inl (cI, 9, .inl (upd K k (acK x1 x2 x3 x4)))), (y2, .inl (cI, 9, .inl (nA (updN Lm k 3))))] H := hP
                                refine lv_aload_n hx hb dX5_addCode_212 rfl (lv_at hl 3 rfl) ?_
                                refine lv_dup hx hb dX5_addCode_213 rfl ?_
                                refine va_get (v := .int (nI k)) hx hb hts hi_5 hown hK hP 0 rfl rfl 1 (by decide) f_36 (fun _ h => h) rfl dX5_addCode_214 ?_
                                refine lv_iconst (v := nI 1) hx hb dX5_addCode_217 ci_1 ?_
                                refine z_iadd hx hb dX5_addCode_218 ?_
                                refine z_put hx hb hts hi_5 tyX5 tyX5_ok nmX5 hown hK hP hD rfl hS 0 rfl rfl 1 (by decide) f_36 (fun _ h => h) rfl (by decide +kernel) (Nat.le_of_ble_eq_true rfl) dX5_addCode_219 (fun H locs hP hS => ?_)
                                have hP : va_P D vwCl [(y0, .inr (5, [.int (nI 0), .int (nI (k + 1)), .ref y1, .ref y2, .int (nI n), .ref y3, .int (nI q), .int (nI sg), .int rp, .int lo, .int ea, .ref y4, .ref y5, .int (nI go), .int (nI ak), .int (nI gn), .int (nI gf)])), (y1, .inl (cI, 9, .inl (upd K k (acK x1 x2 x3 x4)))), (y2, .inl (cI, 9, .inl (nA (updN Lm k 3))))] H := hP
                                refine lv_aload_n hx hb dX5_addCode_222 rfl (lv_at hl 3 rfl) ?_
                                refine va_get (v := .int (nI (k + 1))) hx hb hts hi_5 hown hK hP 0 rfl rfl 1 (by decide) f_36 (fun _ h => h) rfl dX5_addCode_223 ?_
                                refine lv_iconst (v := nI 1) hx hb dX5_addCode_226 ci_1 ?_
                                refine z_isub hx hb dX5_addCode_227 (by omega) ?_
                                exact mu_iret hA hQ hx hb hr hlocks (0, k + 1, nI ((k + 1) - 1), upd K k (acK x1 x2 x3 x4), updN Lm k 3) hP hS ⟨rfl, Or.inl ⟨hnb, ad_r hfl (by omega) (by omega), rfl, rfl, rfl, rfl, (by first | (rw [clen, if_neg c_203]; done) | (rw [clen, if_pos c_203, if_neg c_193]; done) | (rw [clen, if_pos (ad_4 hnb c_193), if_pos c_193]; done))⟩⟩ dX5_addCode_228
                            · refine lv_iconst (v := nI 2) hx hb dX5_addCode_196 ci_2 ?_
                              refine lv_goto (tgt := 211) hx hb dX5_addCode_197 (by decide) ?_
                              refine z_iastN hx hb hK hP hD rfl hS 2 0 rfl rfl (by omega) (by decide) dX5_addCode_211 (fun H locs hP hS => ?_)
                              have hP : va_P D vwCl [(y0, .inr (5, [.int (nI 0), .int (nI k), .ref y1, .ref y2, .int (nI n), .ref y3, .int (nI q), .int (nI sg), .int rp, .int lo, .int ea, .ref y4, .ref y5, .int (nI go), .int (nI ak), .int (nI gn), .int (nI gf)])), (y1, .inl (cI, 9, .inl (upd K k (acK x1 x2 x3 x4)))), (y2, .inl (cI, 9, .inl (nA (updN Lm k 2))))] H := hP
                              refine lv_aload_n hx hb dX5_addCode_212 rfl (lv_at hl 3 rfl) ?_
                              refine lv_dup hx hb dX5_addCode_213 rfl ?_
                              refine va_get (v := .int (nI k)) hx hb hts hi_5 hown hK hP 0 rfl rfl 1 (by decide) f_36 (fun _ h => h) rfl dX5_addCode_214 ?_
                              refine lv_iconst (v := nI 1) hx hb dX5_addCode_217 ci_1 ?_
                              refine z_iadd hx hb dX5_addCode_218 ?_
                              refine z_put hx hb hts hi_5 tyX5 tyX5_ok nmX5 hown hK hP hD rfl hS 0 rfl rfl 1 (by decide) f_36 (fun _ h => h) rfl (by decide +kernel) (Nat.le_of_ble_eq_true rfl) dX5_addCode_219 (fun H locs hP hS => ?_)
                              have hP : va_P D vwCl [(y0, .inr (5, [.int (nI 0), .int (nI (k + 1)), .ref y1, .ref y2, .int (nI n), .ref y3, .int (nI q), .int (nI sg), .int rp, .int lo, .int ea, .ref y4, .ref y5, .int (nI go), .int (nI ak), .int (nI gn), .int (nI gf)])), (y1, .inl (cI, 9, .inl (upd K k (acK x1 x2 x3 x4)))), (y2, .inl (cI, 9, .inl (nA (updN Lm k 2))))] H := hP
                              refine lv_aload_n hx hb dX5_addCode_222 rfl (lv_at hl 3 rfl) ?_
                              refine va_get (v := .int (nI (k + 1))) hx hb hts hi_5 hown hK hP 0 rfl rfl 1 (by decide) f_36 (fun _ h => h) rfl dX5_addCode_223 ?_
                              refine lv_iconst (v := nI 1) hx hb dX5_addCode_226 ci_1 ?_
                              refine z_isub hx hb dX5_addCode_227 (by omega) ?_
                              exact mu_iret hA hQ hx hb hr hlocks (0, k + 1, nI ((k + 1) - 1), upd K k (acK x1 x2 x3 x4), updN Lm k 2) hP hS ⟨rfl, Or.inl ⟨hnb, ad_r hfl (by omega) (by omega), rfl, rfl, rfl, rfl, (by first | (rw [clen, if_neg c_203]; done) | (rw [clen, if_pos c_203, if_neg c_193]; done) | (rw [clen, if_pos (ad_4 hnb c_193), if_pos c_193]; done))⟩⟩ dX5_addCode_228
                          · refine lv_aload_n hx hb dX5_addCode_166 rfl (lv_at hl 3 rfl) ?_
                            refine lv_iconst (v := nI 2) hx hb dX5_addCode_167 ci_2 ?_
                            refine z_muV (As := [.int (nI 2)]) (rest := []) ⟨hx, hb, hml, hown, hts⟩ (c_X5_fail l D cI y0 y1 y2 y3 y4 y5 0 k n q sg rp lo ea go ak gn gf 2) (cwV 1 hts gX5_addCode_X5_fail rfl rfl rfl hd_X5_fail ⟨Nat.le_of_ble_eq_true rfl, Nat.le_of_ble_eq_true rfl⟩) ⟨hK, hE⟩ hP hD rfl hS [0] (by decide) rfl (fun _ => rfl) (va_recv hK hP (ci := 5) (q0 := 0) rfl rfl) rfl hl.1 rfl (Nat.le_of_ble_eq_true rfl) dX5_addCode_168 (Nat.zero_le _) (Nat.zero_le _) (fun v9 u9 H locs hp hP hS => ?_)
                            obtain rfl := hp
                            have hP : va_P D vwCl [(y0, .inr (5, [.int (nI 2), .int (nI k), .ref y1, .ref y2, .int (nI n), .ref y3, .int (nI q), .int (nI sg), .int rp, .int lo, .int ea, .ref y4, .ref y5, .int (nI go), .int (nI ak), .int (nI gn), .int (nI gf)])), (y1, .inl (cI, 9, .inl K)), (y2, .inl (cI, 9, .inl (nA Lm)))] H := hP
                            refine W.eq (g2 := F0 mi 171 ls [.int (nI 0)]) rfl ?_
                            exact mu_iret hA hQ hx hb hr hlocks (2, k, nI 0, K, Lm) hP hS ⟨rfl, Or.inr (Or.inr ⟨hnb, ad_q hfl (by omega) (by omega), rfl, rfl, rfl, rfl, rfl⟩)⟩ dX5_addCode_171
                        · refine lv_iload hx hb dX5_addCode_131 (lv_at hl 1 rfl) ?_
                          refine z_if_ne (tgt := 148) hx hb dX5_addCode_133 (by decide) (by omega) (fun c_133 => ?_) (fun c_133 => ?_)
                          · refine lv_iconst (v := nI 1) hx hb dX5_addCode_148 ci_1 ?_
                            refine lv_goto (tgt := 153) hx hb dX5_addCode_149 (by decide) ?_
                            refine lv_istore (lv' := [(6, .int (nI 1)), (7, .int (nI i)), (5, .int (acK x1 x2 x3 x4)), (0, .ref y0), (1, .int x1), (2, .int x2), (3, .int x3), (4, .int x4)]) hx hb dX5_addCode_153 hl (by decide) rfl (fun ls hl => ?_)
                            refine lv_iinc (v := nI (i + 1)) (lv' := [(7, .int (nI (i + 1))), (6, .int (nI 1)), (5, .int (acK x1 x2 x3 x4)), (0, .ref y0), (1, .int x1), (2, .int x2), (3, .int x3), (4, .int x4)]) hx hb dX5_addCode_155 hl (k := 1) rfl (z_inc1 _) (by decide) rfl (fun ls hl => ?_)
                            refine lv_goto (tgt := 122) hx hb dX5_addCode_158 (by decide) ?_
                            exact ih_122 (i + 1) 1 (by omega) (by decide) (by first | exact Or.inl ⟨rfl, ad_p hfl c_133⟩ | exact Or.inl ⟨rfl, Or.inr ⟨i, Nat.lt_succ_self i, c_145⟩⟩ | exact Or.inr ⟨rfl, ad_n hfl c_133 c_145⟩) (by omega) H locs ls hP hS (lv_sub hl [0, 1, 2, 3, 4, 5, 6, 7] rfl)
                          · refine lv_aload_n hx hb dX5_addCode_136 rfl (lv_at hl 3 rfl) ?_
                            refine va_get (v := .ref y1) hx hb hts hi_5 hown hK hP 0 rfl rfl 2 (by decide) f_9 (fun _ h => h) rfl dX5_addCode_137 ?_
                            refine lv_iload hx hb dX5_addCode_140 (lv_at hl 0 rfl) ?_
                            refine z_iald hx hb hK hP 1 0 rfl rfl (by omega) (by decide) dX5_addCode_142 ?_
                            refine lv_iload hx hb dX5_addCode_143 (lv_at hl 2 rfl) ?_
                            refine lv_icmp_ne (tgt := 152) hx hb dX5_addCode_145 (by decide) (fun c_145 => ?_) (fun c_145 => ?_)
                            · refine lv_iconst (v := nI 0) hx hb dX5_addCode_152 ci_0 ?_
                              refine lv_istore (lv' := [(6, .int (nI 0)), (7, .int (nI i)), (5, .int (acK x1 x2 x3 x4)), (0, .ref y0), (1, .int x1), (2, .int x2), (3, .int x3), (4, .int x4)]) hx hb dX5_addCode_153 hl (by decide) rfl (fun ls hl => ?_)
                              refine lv_iinc (v := nI (i + 1)) (lv' := [(7, .int (nI (i + 1))), (6, .int (nI 0)), (5, .int (acK x1 x2 x3 x4)), (0, .ref y0), (1, .int x1), (2, .int x2), (3, .int x3), (4, .int x4)]) hx hb dX5_addCode_155 hl (k := 1) rfl (z_inc1 _) (by decide) rfl (fun ls hl => ?_)
                              refine lv_goto (tgt := 122) hx hb dX5_addCode_158 (by decide) ?_
                              exact ih_122 (i + 1) 0 (by omega) (by decide) (by first | exact Or.inl ⟨rfl, ad_p hfl c_133⟩ | exact Or.inl ⟨rfl, Or.inr ⟨i, Nat.lt_succ_self i, c_145⟩⟩ | exact Or.inr ⟨rfl, ad_n hfl c_133 c_145⟩) (by omega) H locs ls hP hS (lv_sub hl [0, 1, 2, 3, 4, 5, 6, 7] rfl)
                            · refine lv_iconst (v := nI 1) hx hb dX5_addCode_148 ci_1 ?_
                              refine lv_goto (tgt := 153) hx hb dX5_addCode_149 (by decide) ?_
                              refine lv_istore (lv' := [(6, .int (nI 1)), (7, .int (nI i)), (5, .int (acK x1 x2 x3 x4)), (0, .ref y0), (1, .int x1), (2, .int x2), (3, .int x3), (4, .int x4)]) hx hb dX5_addCode_153 hl (by decide) rfl (fun ls hl => ?_)
                              refine lv_iinc (v := nI (i + 1)) (lv' := [(7, .int (nI (i + 1))), (6, .int (nI 1)), (5, .int (acK x1 x2 x3 x4)), (0, .ref y0), (1, .int x1), (2, .int x2), (3, .int x3), (4, .int x4)]) hx hb dX5_addCode_155 hl (k := 1) rfl (z_inc1 _) (by decide) rfl (fun ls hl => ?_)
                              refine lv_goto (tgt := 122) hx hb dX5_addCode_158 (by decide) ?_
                              exact ih_122 (i + 1) 1 (by omega) (by decide) (by first | exact Or.inl ⟨rfl, ad_p hfl c_133⟩ | exact Or.inl ⟨rfl, Or.inr ⟨i, Nat.lt_succ_self i, c_145⟩⟩ | exact Or.inr ⟨rfl, ad_n hfl c_133 c_145⟩) (by omega) H locs ls hP hS (lv_sub hl [0, 1, 2, 3, 4, 5, 6, 7] rfl)
                    exact lp_122 ((k - 0) + 1) 0 1 (Nat.zero_le _) (by decide) (by first | exact Or.inl ⟨rfl, Or.inl c_109⟩ | exact Or.inr ⟨rfl, fun z => z.elim c_109 (fun ⟨c, hc, _⟩ => absurd hc (Nat.not_lt_zero _))⟩) (Nat.lt_succ_self _) H locs ls hP hS hl
                · refine z_bipush (n := 11) hx hb rfl (by decide) dX5_addCode_91 ?_
                  refine lv_iload hx hb dX5_addCode_93 (lv_at hl 0 rfl) ?_
                  refine lv_imul hx hb dX5_addCode_95 ?_
                  refine lv_iload hx hb dX5_addCode_96 (lv_at hl 5 rfl) ?_
                  refine lv_iadd hx hb dX5_addCode_98 ?_
                  refine lv_iconst (v := nI 1) hx hb dX5_addCode_99 ci_1 ?_
                  refine lv_iadd hx hb dX5_addCode_100 ?_
                  refine lv_istore (lv' := [(5, .int ((((nI 11) * (acN (ac2 x1 x2) x3)) + x4) + (nI 1))), (0, .ref y0), (1, .int x1), (2, .int x2), (3, .int x3), (4, .int x4)]) hx hb dX5_addCode_101 hl (by decide) rfl (fun ls hl => ?_)
                  rw [show (((nI 11) * (acN (ac2 x1 x2) x3)) + x4) + (nI 1) = acK x1 x2 x3 x4 from (by unfold acK; conv => { rhs; unfold acN }; first | exact (if_pos c_88).symm | exact (if_neg c_88).symm)] at hl
                  refine lv_aload_n hx hb dX5_addCode_103 rfl (lv_at hl 1 rfl) ?_
                  refine va_get (v := .int (nI k)) hx hb hts hi_5 hown hK hP 0 rfl rfl 1 (by decide) f_36 (fun _ h => h) rfl dX5_addCode_104 ?_
                  refine z_bipush (n := 8) hx hb rfl (by decide) dX5_addCode_107 ?_
                  refine z_icmp_ne (tgt := 116) hx hb dX5_addCode_109 (by decide) (by omega) (by omega) (fun c_109 => ?_) (fun c_109 => ?_)
                  · refine lv_iconst (v := nI 0) hx hb dX5_addCode_116 ci_0 ?_
                    refine lv_istore (lv' := [(6, .int (nI 0)), (5, .int (acK x1 x2 x3 x4)), (0, .ref y0), (1, .int x1), (2, .int x2), (3, .int x3), (4, .int x4)]) hx hb dX5_addCode_117 hl (by decide) rfl (fun ls hl => ?_)
                    refine lv_iconst (v := nI 0) hx hb dX5_addCode_119 ci_0 ?_
                    refine lv_istore (lv' := [(7, .int (nI 0)), (6, .int (nI 0)), (5, .int (acK x1 x2 x3 x4)), (0, .ref y0), (1, .int x1), (2, .int x2), (3, .int x3), (4, .int x4)]) hx hb dX5_addCode_120 hl (by decide) rfl (fun ls hl => ?_)
                    have lp_122 : ∀ (Nf : Nat) (i : Nat) (fl : Nat) (hi : i ≤ k) (hf1 : fl ≤ 1) (hfl : (fl = 1 ∧ acDm K k (acK x1 x2 x3 x4) i) ∨ (fl = 0 ∧ ¬ acDm K k (acK x1 x2 x3 x4) i)) (hN : k - i < Nf) (H : Heap) (locs : List Loc) (ls : Array Slot), va_P D vwCl [(y0, .inr (5, [.int (nI 0), .int (nI k), .ref y1, .ref y2, .int (nI n), .ref y3, .int (nI q), .int (nI sg), .int rp, .int lo, .int ea, .ref y4, .ref y5, .int (nI go), .int (nI ak), .int (nI gn), .int (nI gf)])), (y1, .inl (cI, 9, .inl K)), (y2, .inl (cI, 9, .inl (nA Lm)))] H → va_S A sv.heap H locs → lv_has ls 8 [(7, .int (nI i)), (6, .int (nI fl)), (5, .int (acK x1 x2 x3 x4)), (0, .ref y0), (1, .int x1), (2, .int x2), (3, .int x3), (4, .int x4)] → W pg l ev rm_X5_addCode sv mi ag bl mt cd H locs 0 0 Q (F0 mi 122 ls []) := by
                      intro Nf
                      induction Nf with
                      | zero =>
                        intro i fl hi hf1 hfl hN
                        exact absurd hN (Nat.not_lt_zero _)
                      | succ Nf ih_122 =>
                        intro i fl hi hf1 hfl hN H locs ls hP hS hl
                        refine lv_iload hx hb dX5_addCode_122 (lv_at hl 0 rfl) ?_
                        refine lv_aload_n hx hb dX5_addCode_124 rfl (lv_at hl 3 rfl) ?_
                        refine va_get (v := .int (nI k)) hx hb hts hi_5 hown hK hP 0 rfl rfl 1 (by decide) f_36 (fun _ h => h) rfl dX5_addCode_125 ?_
                        refine z_icmp_ge (tgt := 161) hx hb dX5_addCode_128 (by decide) (by omega) (by omega) (fun c_128 => ?_) (fun c_128 => ?_)
                        · refine lv_iload hx hb dX5_addCode_161 (lv_at hl 1 rfl) ?_
                          refine z_if_eq (tgt := 172) hx hb dX5_addCode_163 (by decide) (by omega) (fun c_163 => ?_) (fun c_163 => ?_)
                          · refine lv_aload_n hx hb dX5_addCode_172 rfl (lv_at hl 3 rfl) ?_
                            refine va_get (v := .ref y1) hx hb hts hi_5 hown hK hP 0 rfl rfl 2 (by decide) f_9 (fun _ h => h) rfl dX5_addCode_173 ?_
                            refine lv_aload_n hx hb dX5_addCode_176 rfl (lv_at hl 3 rfl) ?_
                            refine va_get (v := .int (nI k)) hx hb hts hi_5 hown hK hP 0 rfl rfl 1 (by decide) f_36 (fun _ h => h) rfl dX5_addCode_177 ?_
                            refine lv_iload hx hb dX5_addCode_180 (lv_at hl 2 rfl) ?_
                            refine z_iast hx hb hK hP hD rfl hS 1 0 rfl rfl (by omega) (by decide) dX5_addCode_182 (fun H locs hP hS => ?_)
                            have hP : va_P D vwCl [(y0, .inr (5, [.int (nI 0), .int (nI k), .ref y1, .ref y2, .int (nI n), .ref y3, .int (nI q), .int (nI sg), .int rp, .int lo, .int ea, .ref y4, .ref y5, .int (nI go), .int (nI ak), .int (nI gn), .int (nI gf)])), (y1, .inl (cI, 9, .inl (upd K k (acK x1 x2 x3 x4)))), (y2, .inl (cI, 9, .inl (nA Lm)))] H := hP
                            refine lv_aload_n hx hb dX5_addCode_183 rfl (lv_at hl 3 rfl) ?_
                            refine va_get (v := .ref y2) hx hb hts hi_5 hown hK hP 0 rfl rfl 3 (by decide) f_13 (fun _ h => h) rfl dX5_addCode_184 ?_
                            refine lv_aload_n hx hb dX5_addCode_187 rfl (lv_at hl 3 rfl) ?_
                            refine va_get (v := .int (nI k)) hx hb hts hi_5 hown hK hP 0 rfl rfl 1 (by decide) f_36 (fun _ h => h) rfl dX5_addCode_188 ?_
                            refine lv_iload_n hx hb dX5_addCode_191 rfl (lv_at hl 6 rfl) ?_
                            refine lv_iconst (v := -1) hx hb dX5_addCode_192 ci_m1 ?_
                            refine lv_icmp_ne (tgt := 200) hx hb dX5_addCode_193 (by decide) (fun c_193 => ?_) (fun c_193 => ?_)
                            · refine lv_iload hx hb dX5_addCode_200 (lv_at hl 7 rfl) ?_
                              refine lv_iconst (v := -1) hx hb dX5_addCode_202 ci_m1 ?_
                              refine lv_icmp_ne (tgt := 210) hx hb dX5_addCode_203 (by decide) (fun c_203 => ?_) (fun c_203 => ?_)
                              · refine lv_iconst (v := nI 4) hx hb dX5_addCode_210 ci_4 ?_
                                refine z_iastN hx hb hK hP hD rfl hS 2 0 rfl rfl (by omega) (by decide) dX5_addCode_211 (fun H locs hP hS => ?_)
                                have hP : va_P D vwCl [(y0, .inr (5, [.int (nI 0), .int (nI k), .ref y1, .ref y2, .int (nI n), .ref y3, .int (nI q), .int (nI sg), .int rp, .int lo, .int ea, .ref y4, .ref y5, .int (nI go), .int (nI ak), .int (nI gn), .int (nI gf)])), (y1, .inl (cI, 9, .inl (upd K k (acK x1 x2 x3 x4)))), (y2, .inl (cI, 9, .inl (nA (updN Lm k 4))))] H := hP
                                refine lv_aload_n hx hb dX5_addCode_212 rfl (lv_at hl 3 rfl) ?_
                                refine lv_dup hx hb dX5_addCode_213 rfl ?_
                                refine va_get (v := .int (nI k)) hx hb hts hi_5 hown hK hP 0 rfl rfl 1 (by decide) f_36 (fun _ h => h) rfl dX5_addCode_214 ?_
                                refine lv_iconst (v := nI 1) hx hb dX5_addCode_217 ci_1 ?_
                                refine z_iadd hx hb dX5_addCode_218 ?_
                                refine z_put hx hb hts hi_5 tyX5 tyX5_ok nmX5 hown hK hP hD rfl hS 0 rfl rfl 1 (by decide) f_36 (fun _ h => h) rfl (by decide +kernel) (Nat.le_of_ble_eq_true rfl) dX5_addCode_219 (fun H locs hP hS => ?_)
                                have hP : va_P D vwCl [(y0, .inr (5, [.int (nI 0), .int (nI (k + 1)), .ref y1, .ref y2, .int (nI n), .ref y3, .int (nI q), .int (nI sg), .int rp, .int lo, .int ea, .ref y4, .ref y5, .int (nI go), .int (nI ak), .int (nI gn), .int (nI gf)])), (y1, .inl (cI, 9, .inl (upd K k (acK x1 x2 x3 x4)))), (y2, .inl (cI, 9, .inl (nA (updN Lm k 4))))] H := hP
                                refine lv_aload_n hx hb dX5_addCode_222 rfl (lv_at hl 3 rfl) ?_
                                refine va_get (v := .int (nI (k + 1))) hx hb hts hi_5 hown hK hP 0 rfl rfl 1 (by decide) f_36 (fun _ h => h) rfl dX5_addCode_223 ?_
                                refine lv_iconst (v := nI 1) hx hb dX5_addCode_226 ci_1 ?_
                                refine z_isub hx hb dX5_addCode_227 (by omega) ?_
                                exact mu_iret hA hQ hx hb hr hlocks (0, k + 1, nI ((k + 1) - 1), upd K k (acK x1 x2 x3 x4), updN Lm k 4) hP hS ⟨rfl, Or.inl ⟨hnb, ad_r hfl (by omega) (by omega), rfl, rfl, rfl, rfl, (by first | (rw [clen, if_neg c_203]; done) | (rw [clen, if_pos c_203, if_neg c_193]; done) | (rw [clen, if_pos (ad_4 hnb c_193), if_pos c_193]; done))⟩⟩ dX5_addCode_228
                              · refine lv_iconst (v := nI 3) hx hb dX5_addCode_206 ci_3 ?_
                                refine lv_goto (tgt := 211) hx hb dX5_addCode_207 (by decide) ?_
                                refine z_iastN hx hb hK hP hD rfl hS 2 0 rfl rfl (by omega) (by decide) dX5_addCode_211 (fun H locs hP hS => ?_)
                                have hP : va_P D vwCl [(y0, .inr (5, [.int (nI 0), .int (nI k), .ref y1, .ref y2, .int (nI n), .ref y3, .int (nI q), .int (nI sg), .int rp, .int lo, .int ea, .ref y4, .ref y5, .int (nI go), .int (nI ak), .int (nI gn), .int (nI gf)])), (y1, .inl (cI, 9, .inl (upd K k (acK x1 x2 x3 x4)))), (y2, .inl (cI, 9, .inl (nA (updN Lm k 3))))] H := hP
                                refine lv_aload_n hx hb dX5_addCode_212 rfl (lv_at hl 3 rfl) ?_
                                refine lv_dup hx hb dX5_addCode_213 rfl ?_
                                refine va_get (v := .int (nI k)) hx hb hts hi_5 hown hK hP 0 rfl rfl 1 (by decide) f_36 (fun _ h => h) rfl dX5_addCode_214 ?_
                                refine lv_iconst (v := nI 1) hx hb dX5_addCode_217 ci_1 ?_
                                refine z_iadd hx hb dX5_addCode_218 ?_
                                refine z_put hx hb hts hi_5 tyX5 tyX5_ok nmX5 hown hK hP hD rfl hS 0 rfl rfl 1 (by decide) f_36 (fun _ h => h) rfl (by decide +kernel) (Nat.le_of_ble_eq_true rfl) dX5_addCode_219 (fun H locs hP hS => ?_)
                                have hP : va_P D vwCl [(y0, .inr (5, [.int (nI 0), .int (nI (k + 1)), .ref y1, .ref y2, .int (nI n), .ref y3, .int (nI q), .int (nI sg), .int rp, .int lo, .int ea, .ref y4, .ref y5, .int (nI go), .int (nI ak), .int (nI gn), .int (nI gf)])), (y1, .inl (cI, 9, .inl (upd K k (acK x1 x2 x3 x4)))), (y2, .inl (cI, 9, .inl (nA (updN Lm k 3))))] H := hP
                                refine lv_aload_n hx hb dX5_addCode_222 rfl (lv_at hl 3 rfl) ?_
                                refine va_get (v := .int (nI (k + 1))) hx hb hts hi_5 hown hK hP 0 rfl rfl 1 (by decide) f_36 (fun _ h => h) rfl dX5_addCode_223 ?_
                                refine lv_iconst (v := nI 1) hx hb dX5_addCode_226 ci_1 ?_
                                refine z_isub hx hb dX5_addCode_227 (by omega) ?_
                                exact mu_iret hA hQ hx hb hr hlocks (0, k + 1, nI ((k + 1) - 1), upd K k (acK x1 x2 x3 x4), updN Lm k 3) hP hS ⟨rfl, Or.inl ⟨hnb, ad_r hfl (by omega) (by omega), rfl, rfl, rfl, rfl, (by first | (rw [clen, if_neg c_203]; done) | (rw [clen, if_pos c_203, if_neg c_193]; done) | (rw [clen, if_pos (ad_4 hnb c_193), if_pos c_193]; done))⟩⟩ dX5_addCode_228
                            · refine lv_iconst (v := nI 2) hx hb dX5_addCode_196 ci_2 ?_
                              refine lv_goto (tgt := 211) hx hb dX5_addCode_197 (by decide) ?_
                              refine z_iastN hx hb hK hP hD rfl hS 2 0 rfl rfl (by omega) (by decide) dX5_addCode_211 (fun H locs hP hS => ?_)
                              have hP : va_P D vwCl [(y0, .inr (5, [.int (nI 0), .int (nI k), .ref y1, .ref y2, .int (nI n), .ref y3, .int (nI q), .int (nI sg), .int rp, .int lo, .int ea, .ref y4, .ref y5, .int (nI go), .int (nI ak), .int (nI gn), .int (nI gf)])), (y1, .inl (cI, 9, .inl (upd K k (acK x1 x2 x3 x4)))), (y2, .inl (cI, 9, .inl (nA (updN Lm k 2))))] H := hP
                              refine lv_aload_n hx hb dX5_addCode_212 rfl (lv_at hl 3 rfl) ?_
                              refine lv_dup hx hb dX5_addCode_213 rfl ?_
                              refine va_get (v := .int (nI k)) hx hb hts hi_5 hown hK hP 0 rfl rfl 1 (by decide) f_36 (fun _ h => h) rfl dX5_addCode_214 ?_
                              refine lv_iconst (v := nI 1) hx hb dX5_addCode_217 ci_1 ?_
                              refine z_iadd hx hb dX5_addCode_218 ?_
                              refine z_put hx hb hts hi_5 tyX5 tyX5_ok nmX5 hown hK hP hD rfl hS 0 rfl rfl 1 (by decide) f_36 (fun _ h => h) rfl (by decide +kernel) (Nat.le_of_ble_eq_true rfl) dX5_addCode_219 (fun H locs hP hS => ?_)
                              have hP : va_P D vwCl [(y0, .inr (5, [.int (nI 0), .int (nI (k + 1)), .ref y1, .ref y2, .int (nI n), .ref y3, .int (nI q), .int (nI sg), .int rp, .int lo, .int ea, .ref y4, .ref y5, .int (nI go), .int (nI ak), .int (nI gn), .int (nI gf)])), (y1, .inl (cI, 9, .inl (upd K k (acK x1 x2 x3 x4)))), (y2, .inl (cI, 9, .inl (nA (updN Lm k 2))))] H := hP
                              refine lv_aload_n hx hb dX5_addCode_222 rfl (lv_at hl 3 rfl) ?_
                              refine va_get (v := .int (nI (k + 1))) hx hb hts hi_5 hown hK hP 0 rfl rfl 1 (by decide) f_36 (fun _ h => h) rfl dX5_addCode_223 ?_
                              refine lv_iconst (v := nI 1) hx hb dX5_addCode_226 ci_1 ?_
                              refine z_isub hx hb dX5_addCode_227 (by omega) ?_
                              exact mu_iret hA hQ hx hb hr hlocks (0, k + 1, nI ((k + 1) - 1), upd K k (acK x1 x2 x3 x4), updN Lm k 2) hP hS ⟨rfl, Or.inl ⟨hnb, ad_r hfl (by omega) (by omega), rfl, rfl, rfl, rfl, (by first | (rw [clen, if_neg c_203]; done) | (rw [clen, if_pos c_203, if_neg c_193]; done) | (rw [clen, if_pos (ad_4 hnb c_193), if_pos c_193]; done))⟩⟩ dX5_addCode_228
                          · refine lv_aload_n hx hb dX5_addCode_166 rfl (lv_at hl 3 rfl) ?_
                            refine lv_iconst (v := nI 2) hx hb dX5_addCode_167 ci_2 ?_
                            refine z_muV (As := [.int (nI 2)]) (rest := []) ⟨hx, hb, hml, hown, hts⟩ (c_X5_fail l D cI y0 y1 y2 y3 y4 y5 0 k n q sg rp lo ea go ak gn gf 2) (cwV 1 hts gX5_addCode_X5_fail rfl rfl rfl hd_X5_fail ⟨Nat.le_of_ble_eq_true rfl, Nat.le_of_ble_eq_true rfl⟩) ⟨hK, hE⟩ hP hD rfl hS [0] (by decide) rfl (fun _ => rfl) (va_recv hK hP (ci := 5) (q0 := 0) rfl rfl) rfl hl.1 rfl (Nat.le_of_ble_eq_true rfl) dX5_addCode_168 (Nat.zero_le _) (Nat.zero_le _) (fun v9 u9 H locs hp hP hS => ?_)
                            obtain rfl := hp
                            have hP : va_P D vwCl [(y0, .inr (5, [.int (nI 2), .int (nI k), .ref y1, .ref y2, .int (nI n), .ref y3, .int (nI q), .int (nI sg), .int rp, .int lo, .int ea, .ref y4, .ref y5, .int (nI go), .int (nI ak), .int (nI gn), .int (nI gf)])), (y1, .inl (cI, 9, .inl K)), (y2, .inl (cI, 9, .inl (nA Lm)))] H := hP
                            refine W.eq (g2 := F0 mi 171 ls [.int (nI 0)]) rfl ?_
                            exact mu_iret hA hQ hx hb hr hlocks (2, k, nI 0, K, Lm) hP hS ⟨rfl, Or.inr (Or.inr ⟨hnb, ad_q hfl (by omega) (by omega), rfl, rfl, rfl, rfl, rfl⟩)⟩ dX5_addCode_171
                        · refine lv_iload hx hb dX5_addCode_131 (lv_at hl 1 rfl) ?_
                          refine z_if_ne (tgt := 148) hx hb dX5_addCode_133 (by decide) (by omega) (fun c_133 => ?_) (fun c_133 => ?_)
                          · refine lv_iconst (v := nI 1) hx hb dX5_addCode_148 ci_1 ?_
                            refine lv_goto (tgt := 153) hx hb dX5_addCode_149 (by decide) ?_
                            refine lv_istore (lv' := [(6, .int (nI 1)), (7, .int (nI i)), (5, .int (acK x1 x2 x3 x4)), (0, .ref y0), (1, .int x1), (2, .int x2), (3, .int x3), (4, .int x4)]) hx hb dX5_addCode_153 hl (by decide) rfl (fun ls hl => ?_)
                            refine lv_iinc (v := nI (i + 1)) (lv' := [(7, .int (nI (i + 1))), (6, .int (nI 1)), (5, .int (acK x1 x2 x3 x4)), (0, .ref y0), (1, .int x1), (2, .int x2), (3, .int x3), (4, .int x4)]) hx hb dX5_addCode_155 hl (k := 1) rfl (z_inc1 _) (by decide) rfl (fun ls hl => ?_)
                            refine lv_goto (tgt := 122) hx hb dX5_addCode_158 (by decide) ?_
                            exact ih_122 (i + 1) 1 (by omega) (by decide) (by first | exact Or.inl ⟨rfl, ad_p hfl c_133⟩ | exact Or.inl ⟨rfl, Or.inr ⟨i, Nat.lt_succ_self i, c_145⟩⟩ | exact Or.inr ⟨rfl, ad_n hfl c_133 c_145⟩) (by omega) H locs ls hP hS (lv_sub hl [0, 1, 2, 3, 4, 5, 6, 7] rfl)
                          · refine lv_aload_n hx hb dX5_addCode_136 rfl (lv_at hl 3 rfl) ?_
                            refine va_get (v := .ref y1) hx hb hts hi_5 hown hK hP 0 rfl rfl 2 (by decide) f_9 (fun _ h => h) rfl dX5_addCode_137 ?_
                            refine lv_iload hx hb dX5_addCode_140 (lv_at hl 0 rfl) ?_
                            refine z_iald hx hb hK hP 1 0 rfl rfl (by omega) (by decide) dX5_addCode_142 ?_
                            refine lv_iload hx hb dX5_addCode_143 (lv_at hl 2 rfl) ?_
                            refine lv_icmp_ne (tgt := 152) hx hb dX5_addCode_145 (by decide) (fun c_145 => ?_) (fun c_145 => ?_)
                            · refine lv_iconst (v := nI 0) hx hb dX5_addCode_152 ci_0 ?_
                              refine lv_istore (lv' := [(6, .int (nI 0)), (7, .int (nI i)), (5, .int (acK x1 x2 x3 x4)), (0, .ref y0), (1, .int x1), (2, .int x2), (3, .int x3), (4, .int x4)]) hx hb dX5_addCode_153 hl (by decide) rfl (fun ls hl => ?_)
                              refine lv_iinc (v := nI (i + 1)) (lv' := [(7, .int (nI (i + 1))), (6, .int (nI 0)), (5, .int (acK x1 x2 x3 x4)), (0, .ref y0), (1, .int x1), (2, .int x2), (3, .int x3), (4, .int x4)]) hx hb dX5_addCode_155 hl (k := 1) rfl (z_inc1 _) (by decide) rfl (fun ls hl => ?_)
                              refine lv_goto (tgt := 122) hx hb dX5_addCode_158 (by decide) ?_
                              exact ih_122 (i + 1) 0 (by omega) (by decide) (by first | exact Or.inl ⟨rfl, ad_p hfl c_133⟩ | exact Or.inl ⟨rfl, Or.inr ⟨i, Nat.lt_succ_self i, c_145⟩⟩ | exact Or.inr ⟨rfl, ad_n hfl c_133 c_145⟩) (by omega) H locs ls hP hS (lv_sub hl [0, 1, 2, 3, 4, 5, 6, 7] rfl)
                            · refine lv_iconst (v := nI 1) hx hb dX5_addCode_148 ci_1 ?_
                              refine lv_goto (tgt := 153) hx hb dX5_addCode_149 (by decide) ?_
                              refine lv_istore (lv' := [(6, .int (nI 1)), (7, .int (nI i)), (5, .int (acK x1 x2 x3 x4)), (0, .ref y0), (1, .int x1), (2, .int x2), (3, .int x3), (4, .int x4)]) hx hb dX5_addCode_153 hl (by decide) rfl (fun ls hl => ?_)
                              refine lv_iinc (v := nI (i + 1)) (lv' := [(7, .int (nI (i + 1))), (6, .int (nI 1)), (5, .int (acK x1 x2 x3 x4)), (0, .ref y0), (1, .int x1), (2, .int x2), (3, .int x3), (4, .int x4)]) hx hb dX5_addCode_155 hl (k := 1) rfl (z_inc1 _) (by decide) rfl (fun ls hl => ?_)
                              refine lv_goto (tgt := 122) hx hb dX5_addCode_158 (by decide) ?_
                              exact ih_122 (i + 1) 1 (by omega) (by decide) (by first | exact Or.inl ⟨rfl, ad_p hfl c_133⟩ | exact Or.inl ⟨rfl, Or.inr ⟨i, Nat.lt_succ_self i, c_145⟩⟩ | exact Or.inr ⟨rfl, ad_n hfl c_133 c_145⟩) (by omega) H locs ls hP hS (lv_sub hl [0, 1, 2, 3, 4, 5, 6, 7] rfl)
                    exact lp_122 ((k - 0) + 1) 0 0 (Nat.zero_le _) (by decide) (by first | exact Or.inl ⟨rfl, Or.inl c_109⟩ | exact Or.inr ⟨rfl, fun z => z.elim c_109 (fun ⟨c, hc, _⟩ => absurd hc (Nat.not_lt_zero _))⟩) (Nat.lt_succ_self _) H locs ls hP hS hl
                  · refine lv_iconst (v := nI 1) hx hb dX5_addCode_112 ci_1 ?_
                    refine lv_goto (tgt := 117) hx hb dX5_addCode_113 (by decide) ?_
                    refine lv_istore (lv' := [(6, .int (nI 1)), (5, .int (acK x1 x2 x3 x4)), (0, .ref y0), (1, .int x1), (2, .int x2), (3, .int x3), (4, .int x4)]) hx hb dX5_addCode_117 hl (by decide) rfl (fun ls hl => ?_)
                    refine lv_iconst (v := nI 0) hx hb dX5_addCode_119 ci_0 ?_
                    refine lv_istore (lv' := [(7, .int (nI 0)), (6, .int (nI 1)), (5, .int (acK x1 x2 x3 x4)), (0, .ref y0), (1, .int x1), (2, .int x2), (3, .int x3), (4, .int x4)]) hx hb dX5_addCode_120 hl (by decide) rfl (fun ls hl => ?_)
                    have lp_122 : ∀ (Nf : Nat) (i : Nat) (fl : Nat) (hi : i ≤ k) (hf1 : fl ≤ 1) (hfl : (fl = 1 ∧ acDm K k (acK x1 x2 x3 x4) i) ∨ (fl = 0 ∧ ¬ acDm K k (acK x1 x2 x3 x4) i)) (hN : k - i < Nf) (H : Heap) (locs : List Loc) (ls : Array Slot), va_P D vwCl [(y0, .inr (5, [.int (nI 0), .int (nI k), .ref y1, .ref y2, .int (nI n), .ref y3, .int (nI q), .int (nI sg), .int rp, .int lo, .int ea, .ref y4, .ref y5, .int (nI go), .int (nI ak), .int (nI gn), .int (nI gf)])), (y1, .inl (cI, 9, .inl K)), (y2, .inl (cI, 9, .inl (nA Lm)))] H → va_S A sv.heap H locs → lv_has ls 8 [(7, .int (nI i)), (6, .int (nI fl)), (5, .int (acK x1 x2 x3 x4)), (0, .ref y0), (1, .int x1), (2, .int x2), (3, .int x3), (4, .int x4)] → W pg l ev rm_X5_addCode sv mi ag bl mt cd H locs 0 0 Q (F0 mi 122 ls []) := by
                      intro Nf
                      induction Nf with
                      | zero =>
                        intro i fl hi hf1 hfl hN
                        exact absurd hN (Nat.not_lt_zero _)
                      | succ Nf ih_122 =>
                        intro i fl hi hf1 hfl hN H locs ls hP hS hl
                        refine lv_iload hx hb dX5_addCode_122 (lv_at hl 0 rfl) ?_
                        refine lv_aload_n hx hb dX5_addCode_124 rfl (lv_at hl 3 rfl) ?_
                        refine va_get (v := .int (nI k)) hx hb hts hi_5 hown hK hP 0 rfl rfl 1 (by decide) f_36 (fun _ h => h) rfl dX5_addCode_125 ?_
                        refine z_icmp_ge (tgt := 161) hx hb dX5_addCode_128 (by decide) (by omega) (by omega) (fun c_128 => ?_) (fun c_128 => ?_)
                        · refine lv_iload hx hb dX5_addCode_161 (lv_at hl 1 rfl) ?_
                          refine z_if_eq (tgt := 172) hx hb dX5_addCode_163 (by decide) (by omega) (fun c_163 => ?_) (fun c_163 => ?_)
                          · refine lv_aload_n hx hb dX5_addCode_172 rfl (lv_at hl 3 rfl) ?_
                            refine va_get (v := .ref y1) hx hb hts hi_5 hown hK hP 0 rfl rfl 2 (by decide) f_9 (fun _ h => h) rfl dX5_addCode_173 ?_
                            refine lv_aload_n hx hb dX5_addCode_176 rfl (lv_at hl 3 rfl) ?_
                            refine va_get (v := .int (nI k)) hx hb hts hi_5 hown hK hP 0 rfl rfl 1 (by decide) f_36 (fun _ h => h) rfl dX5_addCode_177 ?_
                            refine lv_iload hx hb dX5_addCode_180 (lv_at hl 2 rfl) ?_
                            refine z_iast hx hb hK hP hD rfl hS 1 0 rfl rfl (by omega) (by decide) dX5_addCode_182 (fun H locs hP hS => ?_)
                            have hP : va_P D vwCl [(y0, .inr (5, [.int (nI 0), .int (nI k), .ref y1, .ref y2, .int (nI n), .ref y3, .int (nI q), .int (nI sg), .int rp, .int lo, .int ea, .ref y4, .ref y5, .int (nI go), .int (nI ak), .int (nI gn), .int (nI gf)])), (y1, .inl (cI, 9, .inl (upd K k (acK x1 x2 x3 x4)))), (y2, .inl (cI, 9, .inl (nA Lm)))] H := hP
                            refine lv_aload_n hx hb dX5_addCode_183 rfl (lv_at hl 3 rfl) ?_
                            refine va_get (v := .ref y2) hx hb hts hi_5 hown hK hP 0 rfl rfl 3 (by decide) f_13 (fun _ h => h) rfl dX5_addCode_184 ?_
                            refine lv_aload_n hx hb dX5_addCode_187 rfl (lv_at hl 3 rfl) ?_
                            refine va_get (v := .int (nI k)) hx hb hts hi_5 hown hK hP 0 rfl rfl 1 (by decide) f_36 (fun _ h => h) rfl dX5_addCode_188 ?_
                            refine lv_iload_n hx hb dX5_addCode_191 rfl (lv_at hl 6 rfl) ?_
                            refine lv_iconst (v := -1) hx hb dX5_addCode_192 ci_m1 ?_
                            refine lv_icmp_ne (tgt := 200) hx hb dX5_addCode_193 (by decide) (fun c_193 => ?_) (fun c_193 => ?_)
                            · refine lv_iload hx hb dX5_addCode_200 (lv_at hl 7 rfl) ?_
                              refine lv_iconst (v := -1) hx hb dX5_addCode_202 ci_m1 ?_
                              refine lv_icmp_ne (tgt := 210) hx hb dX5_addCode_203 (by decide) (fun c_203 => ?_) (fun c_203 => ?_)
                              · refine lv_iconst (v := nI 4) hx hb dX5_addCode_210 ci_4 ?_
                                refine z_iastN hx hb hK hP hD rfl hS 2 0 rfl rfl (by omega) (by decide) dX5_addCode_211 (fun H locs hP hS => ?_)
                                have hP : va_P D vwCl [(y0, .inr (5, [.int (nI 0), .int (nI k), .ref y1, .ref y2, .int (nI n), .ref y3, .int (nI q), .int (nI sg), .int rp, .int lo, .int ea, .ref y4, .ref y5, .int (nI go), .int (nI ak), .int (nI gn), .int (nI gf)])), (y1, .inl (cI, 9, .inl (upd K k (acK x1 x2 x3 x4)))), (y2, .inl (cI, 9, .inl (nA (updN Lm k 4))))] H := hP
                                refine lv_aload_n hx hb dX5_addCode_212 rfl (lv_at hl 3 rfl) ?_
                                refine lv_dup hx hb dX5_addCode_213 rfl ?_
                                refine va_get (v := .int (nI k)) hx hb hts hi_5 hown hK hP 0 rfl rfl 1 (by decide) f_36 (fun _ h => h) rfl dX5_addCode_214 ?_
                                refine lv_iconst (v := nI 1) hx hb dX5_addCode_217 ci_1 ?_
                                refine z_iadd hx hb dX5_addCode_218 ?_
                                refine z_put hx hb hts hi_5 tyX5 tyX5_ok nmX5 hown hK hP hD rfl hS 0 rfl rfl 1 (by decide) f_36 (fun _ h => h) rfl (by decide +kernel) (Nat.le_of_ble_eq_true rfl) dX5_addCode_219 (fun H locs hP hS => ?_)
                                have hP : va_P D vwCl [(y0, .inr (5, [.int (nI 0), .int (nI (k + 1)), .ref y1, .ref y2, .int (nI n), .ref y3, .int (nI q), .int (nI sg), .int rp, .int lo, .int ea, .ref y4, .ref y5, .int (nI go), .int (nI ak), .int (nI gn), .int (nI gf)])), (y1, .inl (cI, 9, .inl (upd K k (acK x1 x2 x3 x4)))), (y2, .inl (cI, 9, .inl (nA (updN Lm k 4))))] H := hP
                                refine lv_aload_n hx hb dX5_addCode_222 rfl (lv_at hl 3 rfl) ?_
                                refine va_get (v := .int (nI (k + 1))) hx hb hts hi_5 hown hK hP 0 rfl rfl 1 (by decide) f_36 (fun _ h => h) rfl dX5_addCode_223 ?_
                                refine lv_iconst (v := nI 1) hx hb dX5_addCode_226 ci_1 ?_
                                refine z_isub hx hb dX5_addCode_227 (by omega) ?_
                                exact mu_iret hA hQ hx hb hr hlocks (0, k + 1, nI ((k + 1) - 1), upd K k (acK x1 x2 x3 x4), updN Lm k 4) hP hS ⟨rfl, Or.inl ⟨hnb, ad_r hfl (by omega) (by omega), rfl, rfl, rfl, rfl, (by first | (rw [clen, if_neg c_203]; done) | (rw [clen, if_pos c_203, if_neg c_193]; done) | (rw [clen, if_pos (ad_4 hnb c_193), if_pos c_193]; done))⟩⟩ dX5_addCode_228
                              · refine lv_iconst (v := nI 3) hx hb dX5_addCode_206 ci_3 ?_
                                refine lv_goto (tgt := 211) hx hb dX5_addCode_207 (by decide) ?_
                                refine z_iastN hx hb hK hP hD rfl hS 2 0 rfl rfl (by omega) (by decide) dX5_addCode_211 (fun H locs hP hS => ?_)
                                have hP : va_P D vwCl [(y0, .inr (5, [.int (nI 0), .int (nI k), .ref y1, .ref y2, .int (nI n), .ref y3, .int (nI q), .int (nI sg), .int rp, .int lo, .int ea, .ref y4, .ref y5, .int (nI go), .int (nI ak), .int (nI gn), .int (nI gf)])), (y1, .inl (cI, 9, .inl (upd K k (acK x1 x2 x3 x4)))), (y2, .inl (cI, 9, .inl (nA (updN Lm k 3))))] H := hP
                                refine lv_aload_n hx hb dX5_addCode_212 rfl (lv_at hl 3 rfl) ?_
                                refine lv_dup hx hb dX5_addCode_213 rfl ?_
                                refine va_get (v := .int (nI k)) hx hb hts hi_5 hown hK hP 0 rfl rfl 1 (by decide) f_36 (fun _ h => h) rfl dX5_addCode_214 ?_
                                refine lv_iconst (v := nI 1) hx hb dX5_addCode_217 ci_1 ?_
                                refine z_iadd hx hb dX5_addCode_218 ?_
                                refine z_put hx hb hts hi_5 tyX5 tyX5_ok nmX5 hown hK hP hD rfl hS 0 rfl rfl 1 (by decide) f_36 (fun _ h => h) rfl (by decide +kernel) (Nat.le_of_ble_eq_true rfl) dX5_addCode_219 (fun H locs hP hS => ?_)
                                have hP : va_P D vwCl [(y0, .inr (5, [.int (nI 0), .int (nI (k + 1)), .ref y1, .ref y2, .int (nI n), .ref y3, .int (nI q), .int (nI sg), .int rp, .int lo, .int ea, .ref y4, .ref y5, .int (nI go), .int (nI ak), .int (nI gn), .int (nI gf)])), (y1, .inl (cI, 9, .inl (upd K k (acK x1 x2 x3 x4)))), (y2, .inl (cI, 9, .inl (nA (updN Lm k 3))))] H := hP
                                refine lv_aload_n hx hb dX5_addCode_222 rfl (lv_at hl 3 rfl) ?_
                                refine va_get (v := .int (nI (k + 1))) hx hb hts hi_5 hown hK hP 0 rfl rfl 1 (by decide) f_36 (fun _ h => h) rfl dX5_addCode_223 ?_
                                refine lv_iconst (v := nI 1) hx hb dX5_addCode_226 ci_1 ?_
                                refine z_isub hx hb dX5_addCode_227 (by omega) ?_
                                exact mu_iret hA hQ hx hb hr hlocks (0, k + 1, nI ((k + 1) - 1), upd K k (acK x1 x2 x3 x4), updN Lm k 3) hP hS ⟨rfl, Or.inl ⟨hnb, ad_r hfl (by omega) (by omega), rfl, rfl, rfl, rfl, (by first | (rw [clen, if_neg c_203]; done) | (rw [clen, if_pos c_203, if_neg c_193]; done) | (rw [clen, if_pos (ad_4 hnb c_193), if_pos c_193]; done))⟩⟩ dX5_addCode_228
                            · refine lv_iconst (v := nI 2) hx hb dX5_addCode_196 ci_2 ?_
                              refine lv_goto (tgt := 211) hx hb dX5_addCode_197 (by decide) ?_
                              refine z_iastN hx hb hK hP hD rfl hS 2 0 rfl rfl (by omega) (by decide) dX5_addCode_211 (fun H locs hP hS => ?_)
                              have hP : va_P D vwCl [(y0, .inr (5, [.int (nI 0), .int (nI k), .ref y1, .ref y2, .int (nI n), .ref y3, .int (nI q), .int (nI sg), .int rp, .int lo, .int ea, .ref y4, .ref y5, .int (nI go), .int (nI ak), .int (nI gn), .int (nI gf)])), (y1, .inl (cI, 9, .inl (upd K k (acK x1 x2 x3 x4)))), (y2, .inl (cI, 9, .inl (nA (updN Lm k 2))))] H := hP
                              refine lv_aload_n hx hb dX5_addCode_212 rfl (lv_at hl 3 rfl) ?_
                              refine lv_dup hx hb dX5_addCode_213 rfl ?_
                              refine va_get (v := .int (nI k)) hx hb hts hi_5 hown hK hP 0 rfl rfl 1 (by decide) f_36 (fun _ h => h) rfl dX5_addCode_214 ?_
                              refine lv_iconst (v := nI 1) hx hb dX5_addCode_217 ci_1 ?_
                              refine z_iadd hx hb dX5_addCode_218 ?_
                              refine z_put hx hb hts hi_5 tyX5 tyX5_ok nmX5 hown hK hP hD rfl hS 0 rfl rfl 1 (by decide) f_36 (fun _ h => h) rfl (by decide +kernel) (Nat.le_of_ble_eq_true rfl) dX5_addCode_219 (fun H locs hP hS => ?_)
                              have hP : va_P D vwCl [(y0, .inr (5, [.int (nI 0), .int (nI (k + 1)), .ref y1, .ref y2, .int (nI n), .ref y3, .int (nI q), .int (nI sg), .int rp, .int lo, .int ea, .ref y4, .ref y5, .int (nI go), .int (nI ak), .int (nI gn), .int (nI gf)])), (y1, .inl (cI, 9, .inl (upd K k (acK x1 x2 x3 x4)))), (y2, .inl (cI, 9, .inl (nA (updN Lm k 2))))] H := hP
                              refine lv_aload_n hx hb dX5_addCode_222 rfl (lv_at hl 3 rfl) ?_
                              refine va_get (v := .int (nI (k + 1))) hx hb hts hi_5 hown hK hP 0 rfl rfl 1 (by decide) f_36 (fun _ h => h) rfl dX5_addCode_223 ?_
                              refine lv_iconst (v := nI 1) hx hb dX5_addCode_226 ci_1 ?_
                              refine z_isub hx hb dX5_addCode_227 (by omega) ?_
                              exact mu_iret hA hQ hx hb hr hlocks (0, k + 1, nI ((k + 1) - 1), upd K k (acK x1 x2 x3 x4), updN Lm k 2) hP hS ⟨rfl, Or.inl ⟨hnb, ad_r hfl (by omega) (by omega), rfl, rfl, rfl, rfl, (by first | (rw [clen, if_neg c_203]; done) | (rw [clen, if_pos c_203, if_neg c_193]; done) | (rw [clen, if_pos (ad_4 hnb c_193), if_pos c_193]; done))⟩⟩ dX5_addCode_228
                          · refine lv_aload_n hx hb dX5_addCode_166 rfl (lv_at hl 3 rfl) ?_
                            refine lv_iconst (v := nI 2) hx hb dX5_addCode_167 ci_2 ?_
                            refine z_muV (As := [.int (nI 2)]) (rest := []) ⟨hx, hb, hml, hown, hts⟩ (c_X5_fail l D cI y0 y1 y2 y3 y4 y5 0 k n q sg rp lo ea go ak gn gf 2) (cwV 1 hts gX5_addCode_X5_fail rfl rfl rfl hd_X5_fail ⟨Nat.le_of_ble_eq_true rfl, Nat.le_of_ble_eq_true rfl⟩) ⟨hK, hE⟩ hP hD rfl hS [0] (by decide) rfl (fun _ => rfl) (va_recv hK hP (ci := 5) (q0 := 0) rfl rfl) rfl hl.1 rfl (Nat.le_of_ble_eq_true rfl) dX5_addCode_168 (Nat.zero_le _) (Nat.zero_le _) (fun v9 u9 H locs hp hP hS => ?_)
                            obtain rfl := hp
                            have hP : va_P D vwCl [(y0, .inr (5, [.int (nI 2), .int (nI k), .ref y1, .ref y2, .int (nI n), .ref y3, .int (nI q), .int (nI sg), .int rp, .int lo, .int ea, .ref y4, .ref y5, .int (nI go), .int (nI ak), .int (nI gn), .int (nI gf)])), (y1, .inl (cI, 9, .inl K)), (y2, .inl (cI, 9, .inl (nA Lm)))] H := hP
                            refine W.eq (g2 := F0 mi 171 ls [.int (nI 0)]) rfl ?_
                            exact mu_iret hA hQ hx hb hr hlocks (2, k, nI 0, K, Lm) hP hS ⟨rfl, Or.inr (Or.inr ⟨hnb, ad_q hfl (by omega) (by omega), rfl, rfl, rfl, rfl, rfl⟩)⟩ dX5_addCode_171
                        · refine lv_iload hx hb dX5_addCode_131 (lv_at hl 1 rfl) ?_
                          refine z_if_ne (tgt := 148) hx hb dX5_addCode_133 (by decide) (by omega) (fun c_133 => ?_) (fun c_133 => ?_)
                          · refine lv_iconst (v := nI 1) hx hb dX5_addCode_148 ci_1 ?_
                            refine lv_goto (tgt := 153) hx hb dX5_addCode_149 (by decide) ?_
                            refine lv_istore (lv' := [(6, .int (nI 1)), (7, .int (nI i)), (5, .int (acK x1 x2 x3 x4)), (0, .ref y0), (1, .int x1), (2, .int x2), (3, .int x3), (4, .int x4)]) hx hb dX5_addCode_153 hl (by decide) rfl (fun ls hl => ?_)
                            refine lv_iinc (v := nI (i + 1)) (lv' := [(7, .int (nI (i + 1))), (6, .int (nI 1)), (5, .int (acK x1 x2 x3 x4)), (0, .ref y0), (1, .int x1), (2, .int x2), (3, .int x3), (4, .int x4)]) hx hb dX5_addCode_155 hl (k := 1) rfl (z_inc1 _) (by decide) rfl (fun ls hl => ?_)
                            refine lv_goto (tgt := 122) hx hb dX5_addCode_158 (by decide) ?_
                            exact ih_122 (i + 1) 1 (by omega) (by decide) (by first | exact Or.inl ⟨rfl, ad_p hfl c_133⟩ | exact Or.inl ⟨rfl, Or.inr ⟨i, Nat.lt_succ_self i, c_145⟩⟩ | exact Or.inr ⟨rfl, ad_n hfl c_133 c_145⟩) (by omega) H locs ls hP hS (lv_sub hl [0, 1, 2, 3, 4, 5, 6, 7] rfl)
                          · refine lv_aload_n hx hb dX5_addCode_136 rfl (lv_at hl 3 rfl) ?_
                            refine va_get (v := .ref y1) hx hb hts hi_5 hown hK hP 0 rfl rfl 2 (by decide) f_9 (fun _ h => h) rfl dX5_addCode_137 ?_
                            refine lv_iload hx hb dX5_addCode_140 (lv_at hl 0 rfl) ?_
                            refine z_iald hx hb hK hP 1 0 rfl rfl (by omega) (by decide) dX5_addCode_142 ?_
                            refine lv_iload hx hb dX5_addCode_143 (lv_at hl 2 rfl) ?_
                            refine lv_icmp_ne (tgt := 152) hx hb dX5_addCode_145 (by decide) (fun c_145 => ?_) (fun c_145 => ?_)
                            · refine lv_iconst (v := nI 0) hx hb dX5_addCode_152 ci_0 ?_
                              refine lv_istore (lv' := [(6, .int (nI 0)), (7, .int (nI i)), (5, .int (acK x1 x2 x3 x4)), (0, .ref y0), (1, .int x1), (2, .int x2), (3, .int x3), (4, .int x4)]) hx hb dX5_addCode_153 hl (by decide) rfl (fun ls hl => ?_)
                              refine lv_iinc (v := nI (i + 1)) (lv' := [(7, .int (nI (i + 1))), (6, .int (nI 0)), (5, .int (acK x1 x2 x3 x4)), (0, .ref y0), (1, .int x1), (2, .int x2), (3, .int x3), (4, .int x4)]) hx hb dX5_addCode_155 hl (k := 1) rfl (z_inc1 _) (by decide) rfl (fun ls hl => ?_)
                              refine lv_goto (tgt := 122) hx hb dX5_addCode_158 (by decide) ?_
                              exact ih_122 (i + 1) 0 (by omega) (by decide) (by first | exact Or.inl ⟨rfl, ad_p hfl c_133⟩ | exact Or.inl ⟨rfl, Or.inr ⟨i, Nat.lt_succ_self i, c_145⟩⟩ | exact Or.inr ⟨rfl, ad_n hfl c_133 c_145⟩) (by omega) H locs ls hP hS (lv_sub hl [0, 1, 2, 3, 4, 5, 6, 7] rfl)
                            · refine lv_iconst (v := nI 1) hx hb dX5_addCode_148 ci_1 ?_
                              refine lv_goto (tgt := 153) hx hb dX5_addCode_149 (by decide) ?_
                              refine lv_istore (lv' := [(6, .int (nI 1)), (7, .int (nI i)), (5, .int (acK x1 x2 x3 x4)), (0, .ref y0), (1, .int x1), (2, .int x2), (3, .int x3), (4, .int x4)]) hx hb dX5_addCode_153 hl (by decide) rfl (fun ls hl => ?_)
                              refine lv_iinc (v := nI (i + 1)) (lv' := [(7, .int (nI (i + 1))), (6, .int (nI 1)), (5, .int (acK x1 x2 x3 x4)), (0, .ref y0), (1, .int x1), (2, .int x2), (3, .int x3), (4, .int x4)]) hx hb dX5_addCode_155 hl (k := 1) rfl (z_inc1 _) (by decide) rfl (fun ls hl => ?_)
                              refine lv_goto (tgt := 122) hx hb dX5_addCode_158 (by decide) ?_
                              exact ih_122 (i + 1) 1 (by omega) (by decide) (by first | exact Or.inl ⟨rfl, ad_p hfl c_133⟩ | exact Or.inl ⟨rfl, Or.inr ⟨i, Nat.lt_succ_self i, c_145⟩⟩ | exact Or.inr ⟨rfl, ad_n hfl c_133 c_145⟩) (by omega) H locs ls hP hS (lv_sub hl [0, 1, 2, 3, 4, 5, 6, 7] rfl)
                    exact lp_122 ((k - 0) + 1) 0 1 (Nat.zero_le _) (by decide) (by first | exact Or.inl ⟨rfl, Or.inl c_109⟩ | exact Or.inr ⟨rfl, fun z => z.elim c_109 (fun ⟨c, hc, _⟩ => absurd hc (Nat.not_lt_zero _))⟩) (Nat.lt_succ_self _) H locs ls hP hS hl
            · refine lv_aload_n hx hb dX5_addCode_51 rfl (lv_at hl 0 rfl) ?_
              refine lv_iconst (v := nI 1) hx hb dX5_addCode_52 ci_1 ?_
              refine z_muV (As := [.int (nI 1)]) (rest := []) ⟨hx, hb, hml, hown, hts⟩ (c_X5_fail l D cI y0 y1 y2 y3 y4 y5 0 k n q sg rp lo ea go ak gn gf 1) (cwV 1 hts gX5_addCode_X5_fail rfl rfl rfl hd_X5_fail ⟨Nat.le_of_ble_eq_true rfl, Nat.le_of_ble_eq_true rfl⟩) ⟨hK, hE⟩ hP hD rfl hS [0] (by decide) rfl (fun _ => rfl) (va_recv hK hP (ci := 5) (q0 := 0) rfl rfl) rfl hl.1 rfl (Nat.le_of_ble_eq_true rfl) dX5_addCode_53 (Nat.zero_le _) (Nat.zero_le _) (fun v9 u9 H locs hp hP hS => ?_)
              obtain rfl := hp
              have hP : va_P D vwCl [(y0, .inr (5, [.int (nI 1), .int (nI k), .ref y1, .ref y2, .int (nI n), .ref y3, .int (nI q), .int (nI sg), .int rp, .int lo, .int ea, .ref y4, .ref y5, .int (nI go), .int (nI ak), .int (nI gn), .int (nI gf)])), (y1, .inl (cI, 9, .inl K)), (y2, .inl (cI, 9, .inl (nA Lm)))] H := hP
              refine W.eq (g2 := F0 mi 56 ls [.int (nI 0)]) rfl ?_
              exact mu_iret hA hQ hx hb hr hlocks (1, k, nI 0, K, Lm) hP hS ⟨rfl, Or.inr (Or.inl ⟨(by first | exact Or.inl (Or.inl c_9) | exact Or.inl (Or.inr c_16) | exact Or.inr (Or.inl (Or.inl (fun z => c_26 (z_inM.mpr z)))) | exact Or.inr (Or.inl (Or.inr (fun z => c_37 (z_inM.mpr z)))) | exact Or.inr (Or.inr ⟨c_42, c_48⟩)), rfl, rfl, rfl, rfl, rfl⟩)⟩ dX5_addCode_56
set_option maxHeartbeats 4000000 in
set_option maxRecDepth 100000 in
theorem c_X5_bestNew (l : Launch) (D : va_G) (cI : ClassId) (y0 : Nat) (y1 : Nat) (y2 : Nat) (y3 : Nat) (y4 : Nat) (y5 : Nat) (th : Nat) (k : Nat) (n : Nat) (q : Nat) (sg : Nat) (rp : Int32) (lo : Int32) (ea : Int32) (go : Nat) (ak : Nat) (gn : Nat) (gf : Nat) (K : Nat → Int32) (Lm : Nat → Nat) (t : Nat → Nat) (f : Nat → Nat) (C : Nat → Int32) (m2 : Nat) (hn : n ≤ 24) (hk : k ≤ 8) (hLk : ∀ c, c < k → 2 ≤ Lm c ∧ Lm c ≤ 4) (hKk : ∀ c, c < k → ¬ K c = -1) (ht : ∀ j, j < n → t j < 10) (hm2 : 2 ≤ m2 ∧ m2 ≤ 4) : MU l yX5_bestNew wsX5_bestNew rm_X5_bestNew D cI [(y0, .inr (5, [.int (nI th), .int (nI k), .ref y1, .ref y2, .int (nI n), .ref y3, .int (nI q), .int (nI sg), .int rp, .int lo, .int ea, .ref y4, .ref y5, .int (nI go), .int (nI ak), .int (nI gn), .int (nI gf)])), (y1, .inl (cI, 9, .inl K)), (y2, .inl (cI, 9, .inl (nA Lm))), (y3, .inl (cI, 24, .inl (nA t))), (y4, .inl (cI, 25, .inl (nA f))), (y5, .inl (cI, 24, .inl C))] [.ref y0, .int (nI m2)] (fun (v9 : Option Value) (u9 : Int32 × (Nat → Int32) × (Nat → Nat) × (Nat → Nat) × (Nat → Int32)) => v9 = some (.int u9.1) ∧ (bmR t n K Lm k m2 u9.1) ∧ (∀ c, c < k → u9.2.1 c = K c ∧ u9.2.2.1 c = Lm c)) (fun (u9 : Int32 × (Nat → Int32) × (Nat → Nat) × (Nat → Nat) × (Nat → Int32)) => [(y0, .inr (5, [.int (nI th), .int (nI k), .ref y1, .ref y2, .int (nI n), .ref y3, .int (nI q), .int (nI sg), .int rp, .int lo, .int ea, .ref y4, .ref y5, .int (nI go), .int (nI ak), .int (nI gn), .int (nI gf)])), (y1, .inl (cI, 9, .inl u9.2.1)), (y2, .inl (cI, 9, .inl (nA u9.2.2.1))), (y3, .inl (cI, 24, .inl (nA t))), (y4, .inl (cI, 25, .inl (nA u9.2.2.2.1))), (y5, .inl (cI, 24, .inl u9.2.2.2.2))]) := by
  refine mu_of (C := RX5) (cc := cX5_bestNew) (maxL := 5) (ret := (some .int)) rfl (by decide) rfl (Nat.le_of_ble_eq_true rfl) ?_
  intro pg ev sv mi ag bl mt cd ls Q A hA hQ hx hb hr hlocks hml hts hown hK hE hD H locs hP hS hl
  have hD : zDD A [y0, y1, y2, y3, y4, y5] := hD
  have hl : lv_has ls 5 [(0, .ref y0), (1, .int (nI m2))] := hl
  have f_39 := hts (.fieldLink RX5 39 "TelegraphDeskModel" "words" "I") (by decide +kernel)
  have f_9 := hts (.fieldLink RX5 9 "TelegraphDeskModel" "key" "[I") (by decide +kernel)
  have f_36 := hts (.fieldLink RX5 36 "TelegraphDeskModel" "codes" "I") (by decide +kernel)
  have f_13 := hts (.fieldLink RX5 13 "TelegraphDeskModel" "length" "[I") (by decide +kernel)
  have f_23 := hts (.fieldLink RX5 23 "TelegraphDeskModel" "fewest" "[I") (by decide +kernel)
  have hi_5 : ∀ w ∈ wsX50, w ∈ wsX5_bestNew := by decide +kernel
  refine lv_iconst (v := -1) hx hb dX5_bestNew_0 ci_m1 ?_
  refine lv_istore_n (lv' := [(2, .int (-1)), (0, .ref y0), (1, .int (nI m2))]) hx hb dX5_bestNew_1 rfl hl (by decide) rfl (fun ls hl => ?_)
  refine z_bipush (n := 25) hx hb rfl (by decide) dX5_bestNew_2 ?_
  refine lv_istore_n (lv' := [(3, .int (nI 25)), (2, .int (-1)), (0, .ref y0), (1, .int (nI m2))]) hx hb dX5_bestNew_4 rfl hl (by decide) rfl (fun ls hl => ?_)
  refine lv_iconst (v := nI 0) hx hb dX5_bestNew_5 ci_0 ?_
  refine lv_istore (lv' := [(4, .int (nI 0)), (3, .int (nI 25)), (2, .int (-1)), (0, .ref y0), (1, .int (nI m2))]) hx hb dX5_bestNew_6 hl (by decide) rfl (fun ls hl => ?_)
  have lp_8 : ∀ (Nf : Nat) (i : Nat) (bb : Int32) (fw : Nat) (K1 : Nat → Int32) (L1 : Nat → Nat) (f1 : Nat → Nat) (C1 : Nat → Int32) (hi : i ≤ 24) (hbm : bmI t n K Lm k m2 i bb fw) (hKL1 : ∀ c, c < k → K1 c = K c ∧ L1 c = Lm c) (hN : 25 - i < Nf) (H : Heap) (locs : List Loc) (ls : Array Slot), va_P D vwCl [(y0, .inr (5, [.int (nI th), .int (nI k), .ref y1, .ref y2, .int (nI n), .ref y3, .int (nI q), .int (nI sg), .int rp, .int lo, .int ea, .ref y4, .ref y5, .int (nI go), .int (nI ak), .int (nI gn), .int (nI gf)])), (y1, .inl (cI, 9, .inl K1)), (y2, .inl (cI, 9, .inl (nA L1))), (y3, .inl (cI, 24, .inl (nA t))), (y4, .inl (cI, 25, .inl (nA f1))), (y5, .inl (cI, 24, .inl C1))] H → va_S A sv.heap H locs → lv_has ls 5 [(4, .int (nI i)), (3, .int (nI fw)), (2, .int bb), (0, .ref y0), (1, .int (nI m2))] → W pg l ev rm_X5_bestNew sv mi ag bl mt cd H locs 0 0 Q (F0 mi 8 ls []) := by
    intro Nf
    induction Nf with
    | zero =>
      intro i bb fw K1 L1 f1 C1 hi hbm hKL1 hN
      exact absurd hN (Nat.not_lt_zero _)
    | succ Nf ih_8 =>
      intro i bb fw K1 L1 f1 C1 hi hbm hKL1 hN H locs ls hP hS hl
      refine lv_iload hx hb dX5_bestNew_8 (lv_at hl 0 rfl) ?_
      refine lv_iload_n hx hb dX5_bestNew_10 rfl (lv_at hl 4 rfl) ?_
      refine z_iadd hx hb dX5_bestNew_11 ?_
      refine lv_aload_n hx hb dX5_bestNew_12 rfl (lv_at hl 3 rfl) ?_
      refine va_get (v := .int (nI n)) hx hb hts hi_5 hown hK hP 0 rfl rfl 4 (by decide) f_39 (fun _ h => h) rfl dX5_bestNew_13 ?_
      refine z_icmp_gt (tgt := 85) hx hb dX5_bestNew_16 (by decide) (by omega) (by omega) (fun c_16 => ?_) (fun c_16 => ?_)
      · refine lv_iload_n hx hb dX5_bestNew_85 rfl (lv_at hl 2 rfl) ?_
        exact mu_iret hA hQ hx hb hr hlocks (bb, K1, L1, f1, C1) hP hS ⟨rfl, (bm_e hbm (by omega)), hKL1⟩ dX5_bestNew_86
      · refine lv_aload_n hx hb dX5_bestNew_19 rfl (lv_at hl 3 rfl) ?_
        refine va_get (v := .ref y1) hx hb hts hi_5 hown hK hP 0 rfl rfl 2 (by decide) f_9 (fun _ h => h) rfl dX5_bestNew_20 ?_
        refine lv_aload_n hx hb dX5_bestNew_23 rfl (lv_at hl 3 rfl) ?_
        refine va_get (v := .int (nI k)) hx hb hts hi_5 hown hK hP 0 rfl rfl 1 (by decide) f_36 (fun _ h => h) rfl dX5_bestNew_24 ?_
        refine lv_aload_n hx hb dX5_bestNew_27 rfl (lv_at hl 3 rfl) ?_
        refine lv_iload hx hb dX5_bestNew_28 (lv_at hl 0 rfl) ?_
        refine lv_iload_n hx hb dX5_bestNew_30 rfl (lv_at hl 4 rfl) ?_
        refine z_roV (As := [.int (nI i), .int (nI m2)]) (rest := [.int (nI k), .ref y1]) ⟨hx, hb, hml, hown, hts⟩ (c_X5_keyAt l D cI y0 y1 y2 y3 y4 y5 th k n q sg rp lo ea go ak gn gf t i m2 (by first | assumption | omega) (by omega) (by omega)) (cwV 2 hts gX5_bestNew_X5_keyAt rfl rfl rfl hd_X5_keyAt ⟨Nat.le_of_ble_eq_true rfl, Nat.le_of_ble_eq_true rfl⟩) ⟨hK, hE⟩ (hP.sub (ws' := [(y0, .inr (5, [.int (nI th), .int (nI k), .ref y1, .ref y2, .int (nI n), .ref y3, .int (nI q), .int (nI sg), .int rp, .int lo, .int ea, .ref y4, .ref y5, .int (nI go), .int (nI ak), .int (nI gn), .int (nI gf)])), (y3, .inl (cI, 24, .inl (nA t)))]) [0, 3] rfl) (va_recv hK hP (ci := 5) (q0 := 0) rfl rfl) rfl hl.1 rfl (Nat.le_of_ble_eq_true rfl) dX5_bestNew_31 (Nat.zero_le _) (Nat.zero_le _) ?_
        refine z_iast hx hb hK hP hD rfl hS 1 0 rfl rfl (by omega) (by decide) dX5_bestNew_34 (fun H locs hP hS => ?_)
        have hP : va_P D vwCl [(y0, .inr (5, [.int (nI th), .int (nI k), .ref y1, .ref y2, .int (nI n), .ref y3, .int (nI q), .int (nI sg), .int rp, .int lo, .int ea, .ref y4, .ref y5, .int (nI go), .int (nI ak), .int (nI gn), .int (nI gf)])), (y1, .inl (cI, 9, .inl (upd K1 k (kyA t n i m2)))), (y2, .inl (cI, 9, .inl (nA L1))), (y3, .inl (cI, 24, .inl (nA t))), (y4, .inl (cI, 25, .inl (nA f1))), (y5, .inl (cI, 24, .inl C1))] H := hP
        refine lv_aload_n hx hb dX5_bestNew_35 rfl (lv_at hl 3 rfl) ?_
        refine va_get (v := .ref y2) hx hb hts hi_5 hown hK hP 0 rfl rfl 3 (by decide) f_13 (fun _ h => h) rfl dX5_bestNew_36 ?_
        refine lv_aload_n hx hb dX5_bestNew_39 rfl (lv_at hl 3 rfl) ?_
        refine va_get (v := .int (nI k)) hx hb hts hi_5 hown hK hP 0 rfl rfl 1 (by decide) f_36 (fun _ h => h) rfl dX5_bestNew_40 ?_
        refine lv_iload_n hx hb dX5_bestNew_43 rfl (lv_at hl 4 rfl) ?_
        refine z_iastN hx hb hK hP hD rfl hS 2 0 rfl rfl (by omega) (by decide) dX5_bestNew_44 (fun H locs hP hS => ?_)
        have hP : va_P D vwCl [(y0, .inr (5, [.int (nI th), .int (nI k), .ref y1, .ref y2, .int (nI n), .ref y3, .int (nI q), .int (nI sg), .int rp, .int lo, .int ea, .ref y4, .ref y5, .int (nI go), .int (nI ak), .int (nI gn), .int (nI gf)])), (y1, .inl (cI, 9, .inl (upd K1 k (kyA t n i m2)))), (y2, .inl (cI, 9, .inl (nA (updN L1 k m2)))), (y3, .inl (cI, 24, .inl (nA t))), (y4, .inl (cI, 25, .inl (nA f1))), (y5, .inl (cI, 24, .inl C1))] H := hP
        refine lv_aload_n hx hb dX5_bestNew_45 rfl (lv_at hl 3 rfl) ?_
        refine lv_aload_n hx hb dX5_bestNew_46 rfl (lv_at hl 3 rfl) ?_
        refine va_get (v := .int (nI k)) hx hb hts hi_5 hown hK hP 0 rfl rfl 1 (by decide) f_36 (fun _ h => h) rfl dX5_bestNew_47 ?_
        refine lv_iconst (v := nI 1) hx hb dX5_bestNew_50 ci_1 ?_
        refine z_iadd hx hb dX5_bestNew_51 ?_
        refine lv_iconst (v := -1) hx hb dX5_bestNew_52 ci_m1 ?_
        refine z_muV (As := [.int (nI (k + 1)), .int (-1)]) (rest := []) ⟨hx, hb, hml, hown, hts⟩ (c_X5_part l D cI y0 y1 y2 y3 y4 y5 th k n q sg rp lo ea go ak gn gf (upd K1 k (kyA t n i m2)) (updN L1 k m2) t f1 C1 (k + 1) (-1) (by first | assumption | omega) (by omega) (bn_L hLk hKL1 hm2) (bn_K hKk hKL1 (kyA_n ht hm2.2 c_16))) (cwV 2 hts gX5_bestNew_X5_part rfl rfl rfl hd_X5_part ⟨Nat.le_of_ble_eq_true rfl, Nat.le_of_ble_eq_true rfl⟩) ⟨hK, hE⟩ hP hD rfl hS [0, 1, 2, 3, 4, 5] (by decide) rfl (fun _ => rfl) (va_recv hK hP (ci := 5) (q0 := 0) rfl rfl) rfl hl.1 rfl (Nat.le_of_ble_eq_true rfl) dX5_bestNew_53 (Nat.zero_le _) (Nat.zero_le _) (fun v9 u9 H locs hp hP hS => ?_)
        obtain ⟨f2_53, C2_53⟩ := u9
        obtain ⟨rfl, hom_53⟩ := hp
        try dsimp only at hom_53
        have hP : va_P D vwCl [(y0, .inr (5, [.int (nI th), .int (nI k), .ref y1, .ref y2, .int (nI n), .ref y3, .int (nI q), .int (nI sg), .int rp, .int lo, .int ea, .ref y4, .ref y5, .int (nI go), .int (nI ak), .int (nI gn), .int (nI gf)])), (y1, .inl (cI, 9, .inl (upd K1 k (kyA t n i m2)))), (y2, .inl (cI, 9, .inl (nA (updN L1 k m2)))), (y3, .inl (cI, 24, .inl (nA t))), (y4, .inl (cI, 25, .inl (nA f2_53))), (y5, .inl (cI, 24, .inl C2_53))] H := hP
        refine W.eq (g2 := F0 mi 56 ls []) rfl ?_
        have hKL : ∀ c, c < k + 1 → (2 ≤ updN L1 k m2 c ∧ updN L1 k m2 c ≤ 4) := bn_L hLk hKL1 hm2
        have hKn : ∀ c, c < k + 1 → ¬ upd K1 k (kyA t n i m2) c = -1 := bn_K hKk hKL1 (kyA_n ht hm2.2 c_16)
        have hge : gM t n (upd K1 k (kyA t n i m2)) (updN L1 k m2) (k + 1) (-1) = nM t n K Lm k m2 i := bn_g hKL1
        have hg9 : f2_53 0 = nM t n K Lm k m2 i := (gM_eq (mbm (t := t) (n := n) (bu := -1) hKL hKn) hom_53).trans hge
        have hg8 := gM_leU (t := t) (n := n) (bu := -1) hKL hKn
        rw [hge] at hg8
        have hg7 := bm_b hbm
        refine lv_aload_n hx hb dX5_bestNew_56 rfl (lv_at hl 3 rfl) ?_
        refine va_get (v := .ref y4) hx hb hts hi_5 hown hK hP 0 rfl rfl 11 (by decide) f_23 (fun _ h => h) rfl dX5_bestNew_57 ?_
        refine lv_iconst (v := nI 0) hx hb dX5_bestNew_60 ci_0 ?_
        refine z_ialdN hx hb hK hP 4 0 rfl rfl (by omega) (by decide) dX5_bestNew_61 ?_
        refine lv_iload_n hx hb dX5_bestNew_62 rfl (lv_at hl 1 rfl) ?_
        refine z_icmp_lt (tgt := 69) hx hb dX5_bestNew_63 (by decide) (by omega) (by omega) (fun c_63 => ?_) (fun c_63 => ?_)
        · refine lv_iload hx hb dX5_bestNew_69 (lv_at hl 0 rfl) ?_
          refine lv_istore_n (lv' := [(2, .int (nI i)), (4, .int (nI i)), (3, .int (nI fw)), (0, .ref y0), (1, .int (nI m2))]) hx hb dX5_bestNew_71 rfl hl (by decide) rfl (fun ls hl => ?_)
          refine lv_aload_n hx hb dX5_bestNew_72 rfl (lv_at hl 3 rfl) ?_
          refine va_get (v := .ref y4) hx hb hts hi_5 hown hK hP 0 rfl rfl 11 (by decide) f_23 (fun _ h => h) rfl dX5_bestNew_73 ?_
          refine lv_iconst (v := nI 0) hx hb dX5_bestNew_76 ci_0 ?_
          refine z_ialdN hx hb hK hP 4 0 rfl rfl (by omega) (by decide) dX5_bestNew_77 ?_
          refine lv_istore_n (lv' := [(3, .int (nI (f2_53 0))), (2, .int (nI i)), (4, .int (nI i)), (0, .ref y0), (1, .int (nI m2))]) hx hb dX5_bestNew_78 rfl hl (by decide) rfl (fun ls hl => ?_)
          refine lv_iinc (v := nI (i + 1)) (lv' := [(4, .int (nI (i + 1))), (3, .int (nI (f2_53 0))), (2, .int (nI i)), (0, .ref y0), (1, .int (nI m2))]) hx hb dX5_bestNew_79 hl (k := 2) rfl (z_inc1 _) (by decide) rfl (fun ls hl => ?_)
          refine lv_goto (tgt := 8) hx hb dX5_bestNew_82 (by decide) ?_
          exact ih_8 (i + 1) (nI i) (f2_53 0) (upd K1 k (kyA t n i m2)) (updN L1 k m2) f2_53 C2_53 (by omega) (by first | exact bm_s hbm (by omega) (by omega) | (rw [hg9]; exact bm_t hbm c_16 (by omega) (by omega))) (bn_e hKL1) (by omega) H locs ls hP hS (lv_sub hl [0, 1, 2, 3, 4] rfl)
        · refine lv_goto (tgt := 79) hx hb dX5_bestNew_66 (by decide) ?_
          refine lv_iinc (v := nI (i + 1)) (lv' := [(4, .int (nI (i + 1))), (3, .int (nI fw)), (2, .int bb), (0, .ref y0), (1, .int (nI m2))]) hx hb dX5_bestNew_79 hl (k := 0) rfl (z_inc1 _) (by decide) rfl (fun ls hl => ?_)
          refine lv_goto (tgt := 8) hx hb dX5_bestNew_82 (by decide) ?_
          exact ih_8 (i + 1) bb fw (upd K1 k (kyA t n i m2)) (updN L1 k m2) f2_53 C2_53 (by omega) (by first | exact bm_s hbm (by omega) (by omega) | (rw [hg9]; exact bm_t hbm c_16 (by omega) (by omega))) (bn_e hKL1) (by omega) H locs ls hP hS (lv_sub hl [0, 1, 2, 3, 4] rfl)
  exact lp_8 ((25 - 0) + 1) 0 (-1) 25 K Lm f C (Nat.zero_le _) bm_0 (fun c _ => ⟨rfl, rfl⟩) (Nat.lt_succ_self _) H locs ls hP hS hl
set_option maxHeartbeats 4000000 in
set_option maxRecDepth 100000 in
theorem c_X5_bestNewCode (l : Launch) (D : va_G) (cI : ClassId) (y0 : Nat) (y1 : Nat) (y2 : Nat) (y3 : Nat) (y4 : Nat) (y5 : Nat) (th : Nat) (k : Nat) (n : Nat) (q : Nat) (sg : Nat) (rp : Int32) (lo : Int32) (ea : Int32) (go : Nat) (ak : Nat) (gn : Nat) (gf : Nat) (K : Nat → Int32) (Lm : Nat → Nat) (t : Nat → Nat) (f : Nat → Nat) (C : Nat → Int32) (x : Int32) (hn : n ≤ 24) (hk : k ≤ 8) (hLk : ∀ c, c < k → 2 ≤ Lm c ∧ Lm c ≤ 4) (hKk : ∀ c, c < k → ¬ K c = -1) (ht : ∀ j, j < n → t j < 10) : MU l yX5_bestNewCode wsX5_bestNewCode rm_X5_bestNewCode D cI [(y0, .inr (5, [.int (nI th), .int (nI k), .ref y1, .ref y2, .int (nI n), .ref y3, .int (nI q), .int (nI sg), .int rp, .int lo, .int ea, .ref y4, .ref y5, .int (nI go), .int (nI ak), .int (nI gn), .int (nI gf)])), (y1, .inl (cI, 9, .inl K)), (y2, .inl (cI, 9, .inl (nA Lm))), (y3, .inl (cI, 24, .inl (nA t))), (y4, .inl (cI, 25, .inl (nA f))), (y5, .inl (cI, 24, .inl C))] [.ref y0, .int x] (fun (v9 : Option Value) (u9 : Nat × Int32 × (Nat → Int32) × (Nat → Nat) × (Nat → Nat) × (Nat → Int32)) => v9 = some (.int u9.2.1) ∧ ((∃ j : Nat, (2 ≤ j ∧ j ≤ 4) ∧ x = nI j ∧ u9.1 = 0 ∧ bmR t n K Lm k j u9.2.1) ∨ ((¬ ∃ j : Nat, (2 ≤ j ∧ j ≤ 4) ∧ x = nI j) ∧ u9.1 = 1 ∧ u9.2.1 = nI 0)) ∧ (∀ c, c < k → u9.2.2.1 c = K c ∧ u9.2.2.2.1 c = Lm c)) (fun (u9 : Nat × Int32 × (Nat → Int32) × (Nat → Nat) × (Nat → Nat) × (Nat → Int32)) => [(y0, .inr (5, [.int (nI u9.1), .int (nI k), .ref y1, .ref y2, .int (nI n), .ref y3, .int (nI q), .int (nI sg), .int rp, .int lo, .int ea, .ref y4, .ref y5, .int (nI go), .int (nI ak), .int (nI gn), .int (nI gf)])), (y1, .inl (cI, 9, .inl u9.2.2.1)), (y2, .inl (cI, 9, .inl (nA u9.2.2.2.1))), (y3, .inl (cI, 24, .inl (nA t))), (y4, .inl (cI, 25, .inl (nA u9.2.2.2.2.1))), (y5, .inl (cI, 24, .inl u9.2.2.2.2.2))]) := by
  refine mu_of (C := RX5) (cc := cX5_bestNewCode) (maxL := 2) (ret := (some .int)) rfl (by decide) rfl (Nat.le_of_ble_eq_true rfl) ?_
  intro pg ev sv mi ag bl mt cd ls Q A hA hQ hx hb hr hlocks hml hts hown hK hE hD H locs hP hS hl
  have hD : zDD A [y0, y1, y2, y3, y4, y5] := hD
  have hl : lv_has ls 2 [(0, .ref y0), (1, .int x)] := hl
  have f_29 := hts (.fieldLink RX5 29 "TelegraphDeskModel" "thrown" "I") (by decide +kernel)
  have hi_5 : ∀ w ∈ wsX50, w ∈ wsX5_bestNewCode := by decide +kernel
  refine lv_aload_n hx hb dX5_bestNewCode_0 rfl (lv_at hl 0 rfl) ?_
  refine lv_iconst (v := nI 0) hx hb dX5_bestNewCode_1 ci_0 ?_
  refine z_put hx hb hts hi_5 tyX5 tyX5_ok nmX5 hown hK hP hD rfl hS 0 rfl rfl 0 (by decide) f_29 (fun _ h => h) rfl (by decide +kernel) (Nat.le_of_ble_eq_true rfl) dX5_bestNewCode_2 (fun H locs hP hS => ?_)
  have hP : va_P D vwCl [(y0, .inr (5, [.int (nI 0), .int (nI k), .ref y1, .ref y2, .int (nI n), .ref y3, .int (nI q), .int (nI sg), .int rp, .int lo, .int ea, .ref y4, .ref y5, .int (nI go), .int (nI ak), .int (nI gn), .int (nI gf)])), (y1, .inl (cI, 9, .inl K)), (y2, .inl (cI, 9, .inl (nA Lm))), (y3, .inl (cI, 24, .inl (nA t))), (y4, .inl (cI, 25, .inl (nA f))), (y5, .inl (cI, 24, .inl C))] H := hP
  refine lv_iload_n hx hb dX5_bestNewCode_5 rfl (lv_at hl 1 rfl) ?_
  refine lv_iconst (v := nI 2) hx hb dX5_bestNewCode_6 ci_2 ?_
  refine lv_iconst (v := nI 4) hx hb dX5_bestNewCode_7 ci_4 ?_
  refine z_roS (As := [.int x, .int (nI 2), .int (nI 4)]) (rest := []) ⟨hx, hb, hml, hown, hts⟩ (c_X5_isIn l D cI x (nI 2) (nI 4)) (va_cwS 3 hts gX5_bestNewCode_X5_isIn rfl rfl rfl hd_X5_isIn ⟨Nat.le_of_ble_eq_true rfl, Nat.le_of_ble_eq_true rfl⟩) ⟨hK, hE⟩ (va_P_nil _ _ _) rfl hl.1 rfl (Nat.le_of_ble_eq_true rfl) dX5_bestNewCode_8 (Nat.zero_le _) (Nat.zero_le _) ?_
  refine z_if_eqP (tgt := 22) hx hb dX5_bestNewCode_11 (by decide) (fun c_11 => ?_) (fun c_11 => ?_)
  · refine lv_aload_n hx hb dX5_bestNewCode_22 rfl (lv_at hl 0 rfl) ?_
    refine lv_iconst (v := nI 1) hx hb dX5_bestNewCode_23 ci_1 ?_
    refine z_muV (As := [.int (nI 1)]) (rest := []) ⟨hx, hb, hml, hown, hts⟩ (c_X5_fail l D cI y0 y1 y2 y3 y4 y5 0 k n q sg rp lo ea go ak gn gf 1) (cwV 1 hts gX5_bestNewCode_X5_fail rfl rfl rfl hd_X5_fail ⟨Nat.le_of_ble_eq_true rfl, Nat.le_of_ble_eq_true rfl⟩) ⟨hK, hE⟩ hP hD rfl hS [0] (by decide) rfl (fun _ => rfl) (va_recv hK hP (ci := 5) (q0 := 0) rfl rfl) rfl hl.1 rfl (Nat.le_of_ble_eq_true rfl) dX5_bestNewCode_24 (Nat.zero_le _) (Nat.zero_le _) (fun v9 u9 H locs hp hP hS => ?_)
    obtain rfl := hp
    have hP : va_P D vwCl [(y0, .inr (5, [.int (nI 1), .int (nI k), .ref y1, .ref y2, .int (nI n), .ref y3, .int (nI q), .int (nI sg), .int rp, .int lo, .int ea, .ref y4, .ref y5, .int (nI go), .int (nI ak), .int (nI gn), .int (nI gf)])), (y1, .inl (cI, 9, .inl K)), (y2, .inl (cI, 9, .inl (nA Lm))), (y3, .inl (cI, 24, .inl (nA t))), (y4, .inl (cI, 25, .inl (nA f))), (y5, .inl (cI, 24, .inl C))] H := hP
    refine W.eq (g2 := F0 mi 27 ls [.int (nI 0)]) rfl ?_
    exact mu_iret hA hQ hx hb hr hlocks (1, nI 0, K, Lm, f, C) hP hS ⟨rfl, Or.inr ⟨fun q => c_11 ((z_inAB (by decide) (by decide)).mpr q), rfl, rfl⟩, (fun c _ => ⟨rfl, rfl⟩)⟩ dX5_bestNewCode_27
  · obtain ⟨j, hj, rfl⟩ := (z_inAB (by decide) (by decide)).mp c_11
    refine lv_aload_n hx hb dX5_bestNewCode_14 rfl (lv_at hl 0 rfl) ?_
    refine lv_iload_n hx hb dX5_bestNewCode_15 rfl (lv_at hl 1 rfl) ?_
    refine z_muV (As := [.int (nI j)]) (rest := []) ⟨hx, hb, hml, hown, hts⟩ (c_X5_bestNew l D cI y0 y1 y2 y3 y4 y5 0 k n q sg rp lo ea go ak gn gf K Lm t f C j (by first | assumption | omega) (by first | assumption | omega) (by first | assumption | omega) (by first | assumption | omega) (by first | assumption | omega) (by first | assumption | omega)) (cwV 1 hts gX5_bestNewCode_X5_bestNew rfl rfl rfl hd_X5_bestNew ⟨Nat.le_of_ble_eq_true rfl, Nat.le_of_ble_eq_true rfl⟩) ⟨hK, hE⟩ hP hD rfl hS [0, 1, 2, 3, 4, 5] (by decide) rfl (fun _ => rfl) (va_recv hK hP (ci := 5) (q0 := 0) rfl rfl) rfl hl.1 rfl (Nat.le_of_ble_eq_true rfl) dX5_bestNewCode_16 (Nat.zero_le _) (Nat.zero_le _) (fun v9 u9 H locs hp hP hS => ?_)
    obtain ⟨r_16, K2_16, Lm2_16, f2_16, C2_16⟩ := u9
    obtain ⟨rfl, hbm_16, hKL_16⟩ := hp
    try dsimp only at hbm_16 hKL_16
    have hP : va_P D vwCl [(y0, .inr (5, [.int (nI 0), .int (nI k), .ref y1, .ref y2, .int (nI n), .ref y3, .int (nI q), .int (nI sg), .int rp, .int lo, .int ea, .ref y4, .ref y5, .int (nI go), .int (nI ak), .int (nI gn), .int (nI gf)])), (y1, .inl (cI, 9, .inl K2_16)), (y2, .inl (cI, 9, .inl (nA Lm2_16))), (y3, .inl (cI, 24, .inl (nA t))), (y4, .inl (cI, 25, .inl (nA f2_16))), (y5, .inl (cI, 24, .inl C2_16))] H := hP
    refine W.eq (g2 := F0 mi 19 ls [.int r_16]) rfl ?_
    refine lv_goto (tgt := 27) hx hb dX5_bestNewCode_19 (by decide) ?_
    exact mu_iret hA hQ hx hb hr hlocks (0, r_16, K2_16, Lm2_16, f2_16, C2_16) hP hS ⟨rfl, Or.inl ⟨j, hj, rfl, rfl, hbm_16⟩, hKL_16⟩ dX5_bestNewCode_27
