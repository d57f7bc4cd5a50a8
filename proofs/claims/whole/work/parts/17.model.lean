theorem hd_X5_thrown : yX5_thrown.cls = RX5 ∧ yX5_thrown.cls ≠ "java/lang/invoke/MethodHandle" ∧ yX5_thrown.cls ≠ "java/lang/invoke/VarHandle" ∧ (parseMethodDescriptor yX5_thrown.desc).map (fun d => d.parameters.length) = some 0 := by decide +kernel
theorem hd_X5_fail : yX5_fail.cls = RX5 ∧ yX5_fail.cls ≠ "java/lang/invoke/MethodHandle" ∧ yX5_fail.cls ≠ "java/lang/invoke/VarHandle" ∧ (parseMethodDescriptor yX5_fail.desc).map (fun d => d.parameters.length) = some 1 := by decide +kernel
theorem hd_X5_told : yX5_told.cls = RX5 ∧ yX5_told.cls ≠ "java/lang/invoke/MethodHandle" ∧ yX5_told.cls ≠ "java/lang/invoke/VarHandle" ∧ (parseMethodDescriptor yX5_told.desc).map (fun d => d.parameters.length) = some 1 := by decide +kernel
theorem hd_X5_isCode : yX5_isCode.cls = RX5 ∧ yX5_isCode.cls ≠ "java/lang/invoke/MethodHandle" ∧ yX5_isCode.cls ≠ "java/lang/invoke/VarHandle" ∧ (parseMethodDescriptor yX5_isCode.desc).map (fun d => d.parameters.length) = some 1 := by decide +kernel
theorem hd_X5_keyAt : yX5_keyAt.cls = RX5 ∧ yX5_keyAt.cls ≠ "java/lang/invoke/MethodHandle" ∧ yX5_keyAt.cls ≠ "java/lang/invoke/VarHandle" ∧ (parseMethodDescriptor yX5_keyAt.desc).map (fun d => d.parameters.length) = some 2 := by decide +kernel
theorem hd_X5_part : yX5_part.cls = RX5 ∧ yX5_part.cls ≠ "java/lang/invoke/MethodHandle" ∧ yX5_part.cls ≠ "java/lang/invoke/VarHandle" ∧ (parseMethodDescriptor yX5_part.desc).map (fun d => d.parameters.length) = some 2 := by decide +kernel
theorem hd_X5_isIn : yX5_isIn.cls ≠ "java/lang/invoke/MethodHandle" ∧ yX5_isIn.cls ≠ "java/lang/invoke/VarHandle" ∧ (parseMethodDescriptor yX5_isIn.desc).map (fun d => d.parameters.length) = some 3 := by decide +kernel
theorem hd_X5_isType : yX5_isType.cls ≠ "java/lang/invoke/MethodHandle" ∧ yX5_isType.cls ≠ "java/lang/invoke/VarHandle" ∧ (parseMethodDescriptor yX5_isType.desc).map (fun d => d.parameters.length) = some 1 := by decide +kernel
abbrev rm_X5_thrown : Room := { frames := 0, cells := 0, slots := 0, locals := 0 }
abbrev rm_X5_fail : Room := { frames := 0, cells := 0, slots := 0, locals := 0 }
abbrev rm_X5_told : Room := { frames := 0, cells := 0, slots := 0, locals := 0 }
abbrev rm_X5_isIn : Room := { frames := 0, cells := 0, slots := 0, locals := 0 }
abbrev rm_X5_isType : Room := { frames := 1, cells := 0, slots := 0, locals := 22 }
abbrev rm_X5_isCode : Room := { frames := 1, cells := 0, slots := 0, locals := 22 }
abbrev rm_X5_keyAt : Room := { frames := 0, cells := 0, slots := 0, locals := 0 }
abbrev rm_X5_part : Room := { frames := 1, cells := 0, slots := 0, locals := 24 }
set_option maxHeartbeats 4000000 in
set_option maxRecDepth 100000 in
theorem c_X5_thrown (l : Launch) (D : va_G) (cI : ClassId) (y0 : Nat) (y1 : Nat) (y2 : Nat) (y3 : Nat) (y4 : Nat) (y5 : Nat) (th : Nat) (k : Nat) (n : Nat) (q : Nat) (sg : Nat) (rp : Int32) (lo : Int32) (ea : Int32) (go : Nat) (ak : Nat) (gn : Nat) (gf : Nat) : RO l yX5_thrown wsX5_thrown rm_X5_thrown D cI [(y0, .inr (5, [.int (nI th), .int (nI k), .ref y1, .ref y2, .int (nI n), .ref y3, .int (nI q), .int (nI sg), .int rp, .int lo, .int ea, .ref y4, .ref y5, .int (nI go), .int (nI ak), .int (nI gn), .int (nI gf)]))] [.ref y0] (.int (nI th)) := by
  refine ro_of (C := RX5) (cc := cX5_thrown) (maxL := 1) (ret := (some .int)) rfl (by decide) rfl (Nat.le_of_ble_eq_true rfl) ?_
  intro pg ev sv mi ag bl mt cd ls Q hQ hx hb hr hlocks hml hts hown hK hE hP hl
  have hP : va_P D vwCl [(y0, .inr (5, [.int (nI th), .int (nI k), .ref y1, .ref y2, .int (nI n), .ref y3, .int (nI q), .int (nI sg), .int rp, .int lo, .int ea, .ref y4, .ref y5, .int (nI go), .int (nI ak), .int (nI gn), .int (nI gf)]))] sv.heap := hP
  have hl : lv_has ls 1 [(0, .ref y0)] := hl
  have f_29 := hts (.fieldLink RX5 29 "TelegraphDeskModel" "thrown" "I") (by decide +kernel)
  have hi_5 : ∀ w ∈ wsX50, w ∈ wsX5_thrown := by decide +kernel
  refine lv_aload_n hx hb dX5_thrown_0 rfl (lv_at hl 0 rfl) ?_
  refine va_get (v := .int (nI th)) hx hb hts hi_5 hown hK hP 0 rfl rfl 0 (by decide) f_29 (fun _ h => h) rfl dX5_thrown_1 ?_
  exact ro_iret hQ hx hb hr hlocks rfl dX5_thrown_4
set_option maxHeartbeats 4000000 in
set_option maxRecDepth 100000 in
theorem c_X5_fail (l : Launch) (D : va_G) (cI : ClassId) (y0 : Nat) (y1 : Nat) (y2 : Nat) (y3 : Nat) (y4 : Nat) (y5 : Nat) (th : Nat) (k : Nat) (n : Nat) (q : Nat) (sg : Nat) (rp : Int32) (lo : Int32) (ea : Int32) (go : Nat) (ak : Nat) (gn : Nat) (gf : Nat) (x : Nat) : MU l yX5_fail wsX5_fail rm_X5_fail D cI [(y0, .inr (5, [.int (nI th), .int (nI k), .ref y1, .ref y2, .int (nI n), .ref y3, .int (nI q), .int (nI sg), .int rp, .int lo, .int ea, .ref y4, .ref y5, .int (nI go), .int (nI ak), .int (nI gn), .int (nI gf)]))] [.ref y0, .int (nI x)] (fun (v9 : Option Value) (u9 : Unit) => v9 = some (.int (nI 0))) (fun (u9 : Unit) => [(y0, .inr (5, [.int (nI x), .int (nI k), .ref y1, .ref y2, .int (nI n), .ref y3, .int (nI q), .int (nI sg), .int rp, .int lo, .int ea, .ref y4, .ref y5, .int (nI go), .int (nI ak), .int (nI gn), .int (nI gf)]))]) := by
  refine mu_of (C := RX5) (cc := cX5_fail) (maxL := 2) (ret := (some .int)) rfl (by decide) rfl (Nat.le_of_ble_eq_true rfl) ?_
  intro pg ev sv mi ag bl mt cd ls Q A hA hQ hx hb hr hlocks hml hts hown hK hE hD H locs hP hS hl
  have hD : zDD A [y0] := hD
  have hl : lv_has ls 2 [(0, .ref y0), (1, .int (nI x))] := hl
  have f_29 := hts (.fieldLink RX5 29 "TelegraphDeskModel" "thrown" "I") (by decide +kernel)
  have hi_5 : ∀ w ∈ wsX50, w ∈ wsX5_fail := by decide +kernel
  refine lv_aload_n hx hb dX5_fail_0 rfl (lv_at hl 0 rfl) ?_
  refine lv_iload_n hx hb dX5_fail_1 rfl (lv_at hl 1 rfl) ?_
  refine z_put hx hb hts hi_5 tyX5 tyX5_ok nmX5 hown hK hP hD rfl hS 0 rfl rfl 0 (by decide) f_29 (fun _ h => h) rfl (by decide +kernel) (Nat.le_of_ble_eq_true rfl) dX5_fail_2 (fun H locs hP hS => ?_)
  have hP : va_P D vwCl [(y0, .inr (5, [.int (nI x), .int (nI k), .ref y1, .ref y2, .int (nI n), .ref y3, .int (nI q), .int (nI sg), .int rp, .int lo, .int ea, .ref y4, .ref y5, .int (nI go), .int (nI ak), .int (nI gn), .int (nI gf)]))] H := hP
  refine lv_iconst (v := nI 0) hx hb dX5_fail_5 ci_0 ?_
  exact mu_iret hA hQ hx hb hr hlocks () hP hS rfl dX5_fail_6
set_option maxHeartbeats 4000000 in
set_option maxRecDepth 100000 in
theorem c_X5_told (l : Launch) (D : va_G) (cI : ClassId) (y0 : Nat) (y1 : Nat) (y2 : Nat) (y3 : Nat) (y4 : Nat) (y5 : Nat) (th : Nat) (k : Nat) (n : Nat) (q : Nat) (sg : Nat) (rp : Int32) (lo : Int32) (ea : Int32) (go : Nat) (ak : Nat) (gn : Nat) (gf : Nat) (x : Int32) : MU l yX5_told wsX5_told rm_X5_told D cI [(y0, .inr (5, [.int (nI th), .int (nI k), .ref y1, .ref y2, .int (nI n), .ref y3, .int (nI q), .int (nI sg), .int rp, .int lo, .int ea, .ref y4, .ref y5, .int (nI go), .int (nI ak), .int (nI gn), .int (nI gf)]))] [.ref y0, .int x] (fun (v9 : Option Value) (u9 : Unit) => v9 = some (.int x)) (fun (u9 : Unit) => [(y0, .inr (5, [.int (nI 0), .int (nI k), .ref y1, .ref y2, .int (nI n), .ref y3, .int (nI q), .int (nI sg), .int rp, .int lo, .int ea, .ref y4, .ref y5, .int (nI go), .int (nI ak), .int (nI gn), .int (nI gf)]))]) := by
  refine mu_of (C := RX5) (cc := cX5_told) (maxL := 2) (ret := (some .int)) rfl (by decide) rfl (Nat.le_of_ble_eq_true rfl) ?_
  intro pg ev sv mi ag bl mt cd ls Q A hA hQ hx hb hr hlocks hml hts hown hK hE hD H locs hP hS hl
  have hD : zDD A [y0] := hD
  have hl : lv_has ls 2 [(0, .ref y0), (1, .int x)] := hl
  have f_29 := hts (.fieldLink RX5 29 "TelegraphDeskModel" "thrown" "I") (by decide +kernel)
  have hi_5 : ∀ w ∈ wsX50, w ∈ wsX5_told := by decide +kernel
  refine lv_aload_n hx hb dX5_told_0 rfl (lv_at hl 0 rfl) ?_
  refine lv_iconst (v := nI 0) hx hb dX5_told_1 ci_0 ?_
  refine z_put hx hb hts hi_5 tyX5 tyX5_ok nmX5 hown hK hP hD rfl hS 0 rfl rfl 0 (by decide) f_29 (fun _ h => h) rfl (by decide +kernel) (Nat.le_of_ble_eq_true rfl) dX5_told_2 (fun H locs hP hS => ?_)
  have hP : va_P D vwCl [(y0, .inr (5, [.int (nI 0), .int (nI k), .ref y1, .ref y2, .int (nI n), .ref y3, .int (nI q), .int (nI sg), .int rp, .int lo, .int ea, .ref y4, .ref y5, .int (nI go), .int (nI ak), .int (nI gn), .int (nI gf)]))] H := hP
  refine lv_iload_n hx hb dX5_told_5 rfl (lv_at hl 1 rfl) ?_
  exact mu_iret hA hQ hx hb hr hlocks () hP hS rfl dX5_told_6
set_option maxHeartbeats 4000000 in
set_option maxRecDepth 100000 in
theorem c_X5_isIn (l : Launch) (D : va_G) (cI : ClassId) (x : Int32) (a : Int32) (b : Int32) : RO l yX5_isIn wsX5_isIn rm_X5_isIn D cI [] [.int x, .int a, .int b] (.int (z1 (a ≤ x ∧ x ≤ b))) := by
  refine ro_of (C := RX5) (cc := cX5_isIn) (maxL := 3) (ret := (some .boolean)) rfl (by decide) rfl (Nat.le_of_ble_eq_true rfl) ?_
  intro pg ev sv mi ag bl mt cd ls Q hQ hx hb hr hlocks hml hts hown hK hE hP hl
  have hP : va_P D vwCl [] sv.heap := hP
  have hl : lv_has ls 3 [(0, .int x), (1, .int a), (2, .int b)] := hl
  refine lv_iload_n hx hb dX5_isIn_0 rfl (lv_at hl 0 rfl) ?_
  refine lv_iload_n hx hb dX5_isIn_1 rfl (lv_at hl 1 rfl) ?_
  refine lv_icmp_lt (tgt := 14) hx hb dX5_isIn_2 (by decide) (fun c_2 => ?_) (fun c_2 => ?_)
  · refine lv_iconst (v := nI 0) hx hb dX5_isIn_14 ci_0 ?_
    exact ro_zret hQ hx hb hr hlocks (z1_0 (fun z => by first | exact absurd c_2 (Int32.not_lt.mpr z.1) | exact absurd c_7 (Int32.not_lt.mpr z.2))) dX5_isIn_15
  · refine lv_iload_n hx hb dX5_isIn_5 rfl (lv_at hl 0 rfl) ?_
    refine lv_iload_n hx hb dX5_isIn_6 rfl (lv_at hl 2 rfl) ?_
    refine lv_icmp_gt (tgt := 14) hx hb dX5_isIn_7 (by decide) (fun c_7 => ?_) (fun c_7 => ?_)
    · refine lv_iconst (v := nI 0) hx hb dX5_isIn_14 ci_0 ?_
      exact ro_zret hQ hx hb hr hlocks (z1_0 (fun z => by first | exact absurd c_2 (Int32.not_lt.mpr z.1) | exact absurd c_7 (Int32.not_lt.mpr z.2))) dX5_isIn_15
    · refine lv_iconst (v := nI 1) hx hb dX5_isIn_10 ci_1 ?_
      refine lv_goto (tgt := 15) hx hb dX5_isIn_11 (by decide) ?_
      exact ro_zret hQ hx hb hr hlocks (z1_1 ⟨Int32.not_lt.mp c_2, Int32.not_lt.mp c_7⟩) dX5_isIn_15
set_option maxHeartbeats 4000000 in
set_option maxRecDepth 100000 in
theorem c_X5_isType (l : Launch) (D : va_G) (cI : ClassId) (x : Int32) : RO l yX5_isType wsX5_isType rm_X5_isType D cI [] [.int x] (.int (z1 (∃ j : Nat, j < 10 ∧ x = nI j))) := by
  refine ro_of (C := RX5) (cc := cX5_isType) (maxL := 1) (ret := (some .boolean)) rfl (by decide) rfl (Nat.le_of_ble_eq_true rfl) ?_
  intro pg ev sv mi ag bl mt cd ls Q hQ hx hb hr hlocks hml hts hown hK hE hP hl
  have hP : va_P D vwCl [] sv.heap := hP
  have hl : lv_has ls 1 [(0, .int x)] := hl
  refine lv_iload_n hx hb dX5_isType_0 rfl (lv_at hl 0 rfl) ?_
  refine lv_iconst (v := nI 0) hx hb dX5_isType_1 ci_0 ?_
  refine z_bipush (n := 9) hx hb rfl (by decide) dX5_isType_2 ?_
  refine z_roS (As := [.int x, .int (nI 0), .int (nI 9)]) (rest := []) ⟨hx, hb, hml, hown, hts⟩ (c_X5_isIn l D cI x (nI 0) (nI 9)) (va_cwS 3 hts gX5_isType_X5_isIn rfl rfl rfl hd_X5_isIn ⟨Nat.le_of_ble_eq_true rfl, Nat.le_of_ble_eq_true rfl⟩) ⟨hK, hE⟩ (va_P_nil _ _ _) rfl hl.1 rfl (Nat.le_of_ble_eq_true rfl) dX5_isType_4 (Nat.zero_le _) (Nat.zero_le _) ?_
  exact ro_zret hQ hx hb hr hlocks (z1_c z_in9) dX5_isType_7
set_option maxHeartbeats 4000000 in
set_option maxRecDepth 100000 in
theorem c_X5_isCode (l : Launch) (D : va_G) (cI : ClassId) (y0 : Nat) (y1 : Nat) (y2 : Nat) (y3 : Nat) (y4 : Nat) (y5 : Nat) (th : Nat) (k : Nat) (n : Nat) (q : Nat) (sg : Nat) (rp : Int32) (lo : Int32) (ea : Int32) (go : Nat) (ak : Nat) (gn : Nat) (gf : Nat) (x : Int32) (hk : k ≤ 8) : RO l yX5_isCode wsX5_isCode rm_X5_isCode D cI [(y0, .inr (5, [.int (nI th), .int (nI k), .ref y1, .ref y2, .int (nI n), .ref y3, .int (nI q), .int (nI sg), .int rp, .int lo, .int ea, .ref y4, .ref y5, .int (nI go), .int (nI ak), .int (nI gn), .int (nI gf)]))] [.ref y0, .int x] (.int (z1 (∃ j : Nat, j < k ∧ x = nI j))) := by
  refine ro_of (C := RX5) (cc := cX5_isCode) (maxL := 2) (ret := (some .boolean)) rfl (by decide) rfl (Nat.le_of_ble_eq_true rfl) ?_
  intro pg ev sv mi ag bl mt cd ls Q hQ hx hb hr hlocks hml hts hown hK hE hP hl
  have hP : va_P D vwCl [(y0, .inr (5, [.int (nI th), .int (nI k), .ref y1, .ref y2, .int (nI n), .ref y3, .int (nI q), .int (nI sg), .int rp, .int lo, .int ea, .ref y4, .ref y5, .int (nI go), .int (nI ak), .int (nI gn), .int (nI gf)]))] sv.heap := hP
  have hl : lv_has ls 2 [(0, .ref y0), (1, .int x)] := hl
  have f_36 := hts (.fieldLink RX5 36 "TelegraphDeskModel" "codes" "I") (by decide +kernel)
  have hi_5 : ∀ w ∈ wsX50, w ∈ wsX5_isCode := by decide +kernel
  refine lv_iload_n hx hb dX5_isCode_0 rfl (lv_at hl 1 rfl) ?_
  refine lv_iconst (v := nI 0) hx hb dX5_isCode_1 ci_0 ?_
  refine lv_aload_n hx hb dX5_isCode_2 rfl (lv_at hl 0 rfl) ?_
  refine va_get (v := .int (nI k)) hx hb hts hi_5 hown hK hP 0 rfl rfl 1 (by decide) f_36 (fun _ h => h) rfl dX5_isCode_3 ?_
  refine lv_iconst (v := nI 1) hx hb dX5_isCode_6 ci_1 ?_
  refine lv_isub hx hb dX5_isCode_7 ?_
  refine z_roS (As := [.int x, .int (nI 0), .int (nI k - nI 1)]) (rest := []) ⟨hx, hb, hml, hown, hts⟩ (c_X5_isIn l D cI x (nI 0) (nI k - nI 1)) (va_cwS 3 hts gX5_isCode_X5_isIn rfl rfl rfl hd_X5_isIn ⟨Nat.le_of_ble_eq_true rfl, Nat.le_of_ble_eq_true rfl⟩) ⟨hK, hE⟩ (va_P_nil _ _ _) rfl hl.1 rfl (Nat.le_of_ble_eq_true rfl) dX5_isCode_8 (Nat.zero_le _) (Nat.zero_le _) ?_
  exact ro_zret hQ hx hb hr hlocks (z1_c (z_inK (by omega))) dX5_isCode_11
set_option maxHeartbeats 4000000 in
set_option maxRecDepth 100000 in
theorem c_X5_keyAt (l : Launch) (D : va_G) (cI : ClassId) (y0 : Nat) (y1 : Nat) (y2 : Nat) (y3 : Nat) (y4 : Nat) (y5 : Nat) (th : Nat) (k : Nat) (n : Nat) (q : Nat) (sg : Nat) (rp : Int32) (lo : Int32) (ea : Int32) (go : Nat) (ak : Nat) (gn : Nat) (gf : Nat) (t : Nat → Nat) (w : Nat) (m2 : Nat) (hn : n ≤ 24) (hw : w ≤ 24) (hm2 : m2 ≤ 4) : RO l yX5_keyAt wsX5_keyAt rm_X5_keyAt D cI [(y0, .inr (5, [.int (nI th), .int (nI k), .ref y1, .ref y2, .int (nI n), .ref y3, .int (nI q), .int (nI sg), .int rp, .int lo, .int ea, .ref y4, .ref y5, .int (nI go), .int (nI ak), .int (nI gn), .int (nI gf)])), (y3, .inl (cI, 24, .inl (nA t)))] [.ref y0, .int (nI w), .int (nI m2)] (.int (kyA t n w m2)) := by
  refine ro_of (C := RX5) (cc := cX5_keyAt) (maxL := 5) (ret := (some .int)) rfl (by decide) rfl (Nat.le_of_ble_eq_true rfl) ?_
  intro pg ev sv mi ag bl mt cd ls Q hQ hx hb hr hlocks hml hts hown hK hE hP hl
  have hP : va_P D vwCl [(y0, .inr (5, [.int (nI th), .int (nI k), .ref y1, .ref y2, .int (nI n), .ref y3, .int (nI q), .int (nI sg), .int rp, .int lo, .int ea, .ref y4, .ref y5, .int (nI go), .int (nI ak), .int (nI gn), .int (nI gf)])), (y3, .inl (cI, 24, .inl (nA t)))] sv.heap := hP
  have hl : lv_has ls 5 [(0, .ref y0), (1, .int (nI w)), (2, .int (nI m2))] := hl
  have f_39 := hts (.fieldLink RX5 39 "TelegraphDeskModel" "words" "I") (by decide +kernel)
  have f_16 := hts (.fieldLink RX5 16 "TelegraphDeskModel" "type" "[I") (by decide +kernel)
  have hi_5 : ∀ w ∈ wsX50, w ∈ wsX5_keyAt := by decide +kernel
  refine lv_iload_n hx hb dX5_keyAt_0 rfl (lv_at hl 1 rfl) ?_
  refine lv_iload_n hx hb dX5_keyAt_1 rfl (lv_at hl 2 rfl) ?_
  refine z_iadd hx hb dX5_keyAt_2 ?_
  refine lv_aload_n hx hb dX5_keyAt_3 rfl (lv_at hl 0 rfl) ?_
  refine va_get (v := .int (nI n)) hx hb hts hi_5 hown hK hP 0 rfl rfl 4 (by decide) f_39 (fun _ h => h) rfl dX5_keyAt_4 ?_
  refine z_icmp_le (tgt := 12) hx hb dX5_keyAt_7 (by decide) (by omega) (by omega) (fun c_7 => ?_) (fun c_7 => ?_)
  · refine lv_iconst (v := nI 0) hx hb dX5_keyAt_12 ci_0 ?_
    refine lv_istore_n (lv' := [(3, .int (nI 0)), (0, .ref y0), (1, .int (nI w)), (2, .int (nI m2))]) hx hb dX5_keyAt_13 rfl hl (by decide) rfl (fun ls hl => ?_)
    refine lv_iconst (v := nI 0) hx hb dX5_keyAt_14 ci_0 ?_
    refine lv_istore (lv' := [(4, .int (nI 0)), (3, .int (nI 0)), (0, .ref y0), (1, .int (nI w)), (2, .int (nI m2))]) hx hb dX5_keyAt_15 hl (by decide) rfl (fun ls hl => ?_)
    have lp_17 : ∀ (Nf : Nat) (i : Nat) (hi : i ≤ m2) (hN : m2 - i < Nf) (ls : Array Slot), lv_has ls 5 [(4, .int (nI i)), (3, .int (nI (kyN t w i))), (0, .ref y0), (1, .int (nI w)), (2, .int (nI m2))] → W pg l ev rm_X5_keyAt sv mi ag bl mt cd sv.heap [] 0 0 Q (F0 mi 17 ls []) := by
      intro Nf
      induction Nf with
      | zero =>
        intro i hi hN
        exact absurd hN (Nat.not_lt_zero _)
      | succ Nf ih_17 =>
        intro i hi hN ls hl
        refine lv_iload hx hb dX5_keyAt_17 (lv_at hl 0 rfl) ?_
        refine lv_iload_n hx hb dX5_keyAt_19 rfl (lv_at hl 4 rfl) ?_
        refine z_icmp_ge (tgt := 46) hx hb dX5_keyAt_20 (by decide) (by omega) (by omega) (fun c_20 => ?_) (fun c_20 => ?_)
        · refine lv_iload_n hx hb dX5_keyAt_46 rfl (lv_at hl 1 rfl) ?_
          exact ro_iret hQ hx hb hr hlocks (by first | (unfold kyA; rw [if_pos c_7]; done) | (unfold kyA; rw [if_neg (by omega), show m2 = i by omega]; done)) dX5_keyAt_47
        · refine z_bipush (n := 11) hx hb rfl (by decide) dX5_keyAt_23 ?_
          refine lv_iload_n hx hb dX5_keyAt_25 rfl (lv_at hl 1 rfl) ?_
          refine z_imul hx hb dX5_keyAt_26 ?_
          refine lv_aload_n hx hb dX5_keyAt_27 rfl (lv_at hl 2 rfl) ?_
          refine va_get (v := .ref y3) hx hb hts hi_5 hown hK hP 0 rfl rfl 5 (by decide) f_16 (fun _ h => h) rfl dX5_keyAt_28 ?_
          refine lv_iload_n hx hb dX5_keyAt_31 rfl (lv_at hl 3 rfl) ?_
          refine lv_iload hx hb dX5_keyAt_32 (lv_at hl 0 rfl) ?_
          refine z_iadd hx hb dX5_keyAt_34 ?_
          refine z_ialdN hx hb hK hP 1 0 rfl rfl (by omega) (by decide) dX5_keyAt_35 ?_
          refine z_iadd hx hb dX5_keyAt_36 ?_
          refine lv_iconst (v := nI 1) hx hb dX5_keyAt_37 ci_1 ?_
          refine z_iadd hx hb dX5_keyAt_38 ?_
          refine lv_istore_n (lv' := [(3, .int (nI (((11 * (kyN t w i)) + (t (w + i))) + 1))), (4, .int (nI i)), (0, .ref y0), (1, .int (nI w)), (2, .int (nI m2))]) hx hb dX5_keyAt_39 rfl hl (by decide) rfl (fun ls hl => ?_)
          refine lv_iinc (v := nI (i + 1)) (lv' := [(4, .int (nI (i + 1))), (3, .int (nI (((11 * (kyN t w i)) + (t (w + i))) + 1))), (0, .ref y0), (1, .int (nI w)), (2, .int (nI m2))]) hx hb dX5_keyAt_40 hl (k := 1) rfl (z_inc1 _) (by decide) rfl (fun ls hl => ?_)
          refine lv_goto (tgt := 17) hx hb dX5_keyAt_43 (by decide) ?_
          exact ih_17 (i + 1) (by omega) (by omega) ls (lv_sub hl [0, 1, 2, 3, 4] rfl)
    exact lp_17 ((m2 - 0) + 1) 0 (Nat.zero_le _) (Nat.lt_succ_self _) ls hl
  · refine lv_iconst (v := -1) hx hb dX5_keyAt_10 ci_m1 ?_
    exact ro_iret hQ hx hb hr hlocks (by first | (unfold kyA; rw [if_pos c_7]; done) | (unfold kyA; rw [if_neg (by omega), show m2 = i by omega]; done)) dX5_keyAt_11
set_option maxHeartbeats 4000000 in
set_option maxRecDepth 100000 in
theorem c_X5_part (l : Launch) (D : va_G) (cI : ClassId) (y0 : Nat) (y1 : Nat) (y2 : Nat) (y3 : Nat) (y4 : Nat) (y5 : Nat) (th : Nat) (k : Nat) (n : Nat) (q : Nat) (sg : Nat) (rp : Int32) (lo : Int32) (ea : Int32) (go : Nat) (ak : Nat) (gn : Nat) (gf : Nat) (K : Nat → Int32) (Lm : Nat → Nat) (t : Nat → Nat) (f : Nat → Nat) (C : Nat → Int32) (my : Nat) (bu : Int32) (hn : n ≤ 24) (hmy : my ≤ 9) (hLm : ∀ c, c < my → 2 ≤ Lm c ∧ Lm c ≤ 4) (hK1 : ∀ c, c < my → ¬ K c = -1) : MU l yX5_part wsX5_part rm_X5_part D cI [(y0, .inr (5, [.int (nI th), .int (nI k), .ref y1, .ref y2, .int (nI n), .ref y3, .int (nI q), .int (nI sg), .int rp, .int lo, .int ea, .ref y4, .ref y5, .int (nI go), .int (nI ak), .int (nI gn), .int (nI gf)])), (y1, .inl (cI, 9, .inl K)), (y2, .inl (cI, 9, .inl (nA Lm))), (y3, .inl (cI, 24, .inl (nA t))), (y4, .inl (cI, 25, .inl (nA f))), (y5, .inl (cI, 24, .inl C))] [.ref y0, .int (nI my), .int bu] (fun (v9 : Option Value) (u9 : (Nat → Nat) × (Nat → Int32)) => v9 = none ∧ (OutM (mtM t n K Lm bu) Lm my n u9.1 (fM u9.2 Lm) u9.2 0)) (fun (u9 : (Nat → Nat) × (Nat → Int32)) => [(y0, .inr (5, [.int (nI th), .int (nI k), .ref y1, .ref y2, .int (nI n), .ref y3, .int (nI q), .int (nI sg), .int rp, .int lo, .int ea, .ref y4, .ref y5, .int (nI go), .int (nI ak), .int (nI gn), .int (nI gf)])), (y1, .inl (cI, 9, .inl K)), (y2, .inl (cI, 9, .inl (nA Lm))), (y3, .inl (cI, 24, .inl (nA t))), (y4, .inl (cI, 25, .inl (nA u9.1))), (y5, .inl (cI, 24, .inl u9.2))]) := by
  refine mu_of (C := RX5) (cc := cX5_part) (maxL := 8) (ret := none) rfl (by decide) rfl (Nat.le_of_ble_eq_true rfl) ?_
  intro pg ev sv mi ag bl mt cd ls Q A hA hQ hx hb hr hlocks hml hts hown hK hE hD H locs hP hS hl
  have hD : zDD A [y0, y1, y2, y3, y4, y5] := hD
  have hl : lv_has ls 8 [(0, .ref y0), (1, .int (nI my)), (2, .int bu)] := hl
  have f_23 := hts (.fieldLink RX5 23 "TelegraphDeskModel" "fewest" "[I") (by decide +kernel)
  have f_39 := hts (.fieldLink RX5 39 "TelegraphDeskModel" "words" "I") (by decide +kernel)
  have f_26 := hts (.fieldLink RX5 26 "TelegraphDeskModel" "first" "[I") (by decide +kernel)
  have f_13 := hts (.fieldLink RX5 13 "TelegraphDeskModel" "length" "[I") (by decide +kernel)
  have f_9 := hts (.fieldLink RX5 9 "TelegraphDeskModel" "key" "[I") (by decide +kernel)
  have hi_5 : ∀ w ∈ wsX50, w ∈ wsX5_part := by decide +kernel
  have hM := mbm (t := t) (n := n) (bu := bu) hLm hK1
  refine lv_aload_n hx hb dX5_part_0 rfl (lv_at hl 0 rfl) ?_
  refine va_get (v := .ref y4) hx hb hts hi_5 hown hK hP 0 rfl rfl 11 (by decide) f_23 (fun _ h => h) rfl dX5_part_1 ?_
  refine lv_aload_n hx hb dX5_part_4 rfl (lv_at hl 0 rfl) ?_
  refine va_get (v := .int (nI n)) hx hb hts hi_5 hown hK hP 0 rfl rfl 4 (by decide) f_39 (fun _ h => h) rfl dX5_part_5 ?_
  refine lv_iconst (v := nI 0) hx hb dX5_part_8 ci_0 ?_
  refine z_iastN hx hb hK hP hD rfl hS 4 0 rfl rfl (by omega) (by decide) dX5_part_9 (fun H locs hP hS => ?_)
  have hP : va_P D vwCl [(y0, .inr (5, [.int (nI th), .int (nI k), .ref y1, .ref y2, .int (nI n), .ref y3, .int (nI q), .int (nI sg), .int rp, .int lo, .int ea, .ref y4, .ref y5, .int (nI go), .int (nI ak), .int (nI gn), .int (nI gf)])), (y1, .inl (cI, 9, .inl K)), (y2, .inl (cI, 9, .inl (nA Lm))), (y3, .inl (cI, 24, .inl (nA t))), (y4, .inl (cI, 25, .inl (nA (updN f n 0)))), (y5, .inl (cI, 24, .inl C))] H := hP
  refine lv_aload_n hx hb dX5_part_10 rfl (lv_at hl 0 rfl) ?_
  refine va_get (v := .int (nI n)) hx hb hts hi_5 hown hK hP 0 rfl rfl 4 (by decide) f_39 (fun _ h => h) rfl dX5_part_11 ?_
  refine lv_iconst (v := nI 1) hx hb dX5_part_14 ci_1 ?_
  refine lv_isub hx hb dX5_part_15 ?_
  refine lv_istore_n (lv' := [(3, .int (nI n - nI 1)), (0, .ref y0), (1, .int (nI my)), (2, .int bu)]) hx hb dX5_part_16 rfl hl (by decide) rfl (fun ls hl => ?_)
  have lp_17 : ∀ (Nf : Nat) (w : Nat) (Fw : Nat → Nat) (lf0 : Nat → Nat) (C0 : Nat → Int32) (hwn : w ≤ n) (hout : OutM (mtM t n K Lm bu) Lm my n Fw lf0 C0 w) (hN : w < Nf) (H : Heap) (locs : List Loc) (ls : Array Slot), va_P D vwCl [(y0, .inr (5, [.int (nI th), .int (nI k), .ref y1, .ref y2, .int (nI n), .ref y3, .int (nI q), .int (nI sg), .int rp, .int lo, .int ea, .ref y4, .ref y5, .int (nI go), .int (nI ak), .int (nI gn), .int (nI gf)])), (y1, .inl (cI, 9, .inl K)), (y2, .inl (cI, 9, .inl (nA Lm))), (y3, .inl (cI, 24, .inl (nA t))), (y4, .inl (cI, 25, .inl (nA Fw))), (y5, .inl (cI, 24, .inl C0))] H → va_S A sv.heap H locs → lv_has ls 8 [(3, .int (nI w - nI 1)), (0, .ref y0), (1, .int (nI my)), (2, .int bu)] → W pg l ev rm_X5_part sv mi ag bl mt cd H locs 0 0 Q (F0 mi 17 ls []) := by
    intro Nf
    induction Nf with
    | zero =>
      intro w Fw lf0 C0 hwn hout hN
      exact absurd hN (Nat.not_lt_zero _)
    | succ Nf ih_17 =>
      intro w Fw lf0 C0 hwn hout hN H locs ls hP hS hl
      refine lv_iload_n hx hb dX5_part_17 rfl (lv_at hl 0 rfl) ?_
      refine lv_if_lt (tgt := 171) hx hb dX5_part_18 (by decide) (fun c_18 => ?_) (fun c_18 => ?_)
      · obtain rfl := z_p0 (by omega) c_18
        exact mu_vret hA hQ hx hb hr hlocks (Fw, C0) hP hS ⟨rfl, (om_fM hmy hout)⟩ dX5_part_171
      · obtain ⟨u, rfl⟩ := z_p1 c_18
        rw [z_pred] at hl
        refine lv_aload_n hx hb dX5_part_21 rfl (lv_at hl 1 rfl) ?_
        refine va_get (v := .ref y4) hx hb hts hi_5 hown hK hP 0 rfl rfl 11 (by decide) f_23 (fun _ h => h) rfl dX5_part_22 ?_
        refine lv_iload_n hx hb dX5_part_25 rfl (lv_at hl 0 rfl) ?_
        refine lv_iconst (v := nI 1) hx hb dX5_part_26 ci_1 ?_
        refine z_iadd hx hb dX5_part_27 ?_
        refine z_ialdN hx hb hK hP 4 0 rfl rfl (by omega) (by decide) dX5_part_28 ?_
        refine lv_iconst (v := nI 1) hx hb dX5_part_29 ci_1 ?_
        refine z_iadd hx hb dX5_part_30 ?_
        refine lv_istore (lv' := [(4, .int (nI ((Fw (u + 1)) + 1))), (3, .int (nI u)), (0, .ref y0), (1, .int (nI my)), (2, .int bu)]) hx hb dX5_part_31 hl (by decide) rfl (fun ls hl => ?_)
        refine lv_iconst (v := nI 1) hx hb dX5_part_33 ci_1 ?_
        refine lv_istore (lv' := [(5, .int (nI 1)), (4, .int (nI ((Fw (u + 1)) + 1))), (3, .int (nI u)), (0, .ref y0), (1, .int (nI my)), (2, .int bu)]) hx hb dX5_part_34 hl (by decide) rfl (fun ls hl => ?_)
        refine lv_aload_n hx hb dX5_part_36 rfl (lv_at hl 3 rfl) ?_
        refine va_get (v := .ref y5) hx hb hts hi_5 hown hK hP 0 rfl rfl 12 (by decide) f_26 (fun _ h => h) rfl dX5_part_37 ?_
        refine lv_iload_n hx hb dX5_part_40 rfl (lv_at hl 2 rfl) ?_
        refine lv_iconst (v := -1) hx hb dX5_part_41 ci_m1 ?_
        refine z_iast hx hb hK hP hD rfl hS 5 0 rfl rfl (by omega) (by decide) dX5_part_42 (fun H locs hP hS => ?_)
        have hP : va_P D vwCl [(y0, .inr (5, [.int (nI th), .int (nI k), .ref y1, .ref y2, .int (nI n), .ref y3, .int (nI q), .int (nI sg), .int rp, .int lo, .int ea, .ref y4, .ref y5, .int (nI go), .int (nI ak), .int (nI gn), .int (nI gf)])), (y1, .inl (cI, 9, .inl K)), (y2, .inl (cI, 9, .inl (nA Lm))), (y3, .inl (cI, 24, .inl (nA t))), (y4, .inl (cI, 25, .inl (nA Fw))), (y5, .inl (cI, 24, .inl (upd C0 u (-1))))] H := hP
        refine lv_iconst (v := nI 0) hx hb dX5_part_43 ci_0 ?_
        refine lv_istore (lv' := [(6, .int (nI 0)), (5, .int (nI 1)), (4, .int (nI ((Fw (u + 1)) + 1))), (3, .int (nI u)), (0, .ref y0), (1, .int (nI my)), (2, .int bu)]) hx hb dX5_part_44 hl (by decide) rfl (fun ls hl => ?_)
        have lp_46 : ∀ (Nf : Nat) (c : Nat) (bN : Nat) (fa : Nat) (C1 : Nat → Int32) (hck : c ≤ my) (hin : InM (mtM t n K Lm bu) Lm Fw C0 u c bN fa C1) (hN : my - c < Nf) (H : Heap) (locs : List Loc) (ls : Array Slot), va_P D vwCl [(y0, .inr (5, [.int (nI th), .int (nI k), .ref y1, .ref y2, .int (nI n), .ref y3, .int (nI q), .int (nI sg), .int rp, .int lo, .int ea, .ref y4, .ref y5, .int (nI go), .int (nI ak), .int (nI gn), .int (nI gf)])), (y1, .inl (cI, 9, .inl K)), (y2, .inl (cI, 9, .inl (nA Lm))), (y3, .inl (cI, 24, .inl (nA t))), (y4, .inl (cI, 25, .inl (nA Fw))), (y5, .inl (cI, 24, .inl C1))] H → va_S A sv.heap H locs → lv_has ls 8 [(6, .int (nI c)), (5, .int (nI fa)), (4, .int (nI bN)), (3, .int (nI u)), (0, .ref y0), (1, .int (nI my)), (2, .int bu)] → W pg l ev rm_X5_part sv mi ag bl mt cd H locs 0 0 Q (F0 mi 46 ls []) := by
          intro Nf
          induction Nf with
          | zero =>
            intro c bN fa C1 hck hin hN
            exact absurd hN (Nat.not_lt_zero _)
          | succ Nf ih_46 =>
            intro c bN fa C1 hck hin hN H locs ls hP hS hl
            refine lv_iload hx hb dX5_part_46 (lv_at hl 0 rfl) ?_
            refine lv_iload_n hx hb dX5_part_48 rfl (lv_at hl 5 rfl) ?_
            refine z_icmp_ge (tgt := 157) hx hb dX5_part_49 (by decide) (by omega) (by omega) (fun c_49 => ?_) (fun c_49 => ?_)
            · rw [show c = my by omega] at hin
              refine lv_aload_n hx hb dX5_part_157 rfl (lv_at hl 4 rfl) ?_
              refine va_get (v := .ref y4) hx hb hts hi_5 hown hK hP 0 rfl rfl 11 (by decide) f_23 (fun _ h => h) rfl dX5_part_158 ?_
              refine lv_iload_n hx hb dX5_part_161 rfl (lv_at hl 3 rfl) ?_
              refine lv_iload hx hb dX5_part_162 (lv_at hl 2 rfl) ?_
              refine z_iastN hx hb hK hP hD rfl hS 4 0 rfl rfl (by omega) (by decide) dX5_part_164 (fun H locs hP hS => ?_)
              have hP : va_P D vwCl [(y0, .inr (5, [.int (nI th), .int (nI k), .ref y1, .ref y2, .int (nI n), .ref y3, .int (nI q), .int (nI sg), .int rp, .int lo, .int ea, .ref y4, .ref y5, .int (nI go), .int (nI ak), .int (nI gn), .int (nI gf)])), (y1, .inl (cI, 9, .inl K)), (y2, .inl (cI, 9, .inl (nA Lm))), (y3, .inl (cI, 24, .inl (nA t))), (y4, .inl (cI, 25, .inl (nA (updN Fw u bN)))), (y5, .inl (cI, 24, .inl C1))] H := hP
              refine lv_iinc (v := nI u - nI 1) (lv' := [(3, .int (nI u - nI 1)), (6, .int (nI c)), (5, .int (nI fa)), (4, .int (nI bN)), (0, .ref y0), (1, .int (nI my)), (2, .int bu)]) hx hb dX5_part_165 hl (k := 3) rfl (z_decR _) (by decide) rfl (fun ls hl => ?_)
              refine lv_goto (tgt := 17) hx hb dX5_part_168 (by decide) ?_
              exact ih_17 u (updN Fw u bN) (updN lf0 u fa) C1 (by omega) (om_step hM (by omega) hout hin.1 hin.2) (by omega) H locs ls hP hS (lv_sub hl [0, 4, 5, 6] rfl)
            · refine lv_iload hx hb dX5_part_52 (lv_at hl 0 rfl) ?_
              refine lv_iload_n hx hb dX5_part_54 rfl (lv_at hl 6 rfl) ?_
              refine lv_icmp_eq (tgt := 151) hx hb dX5_part_55 (by decide) (fun c_55 => ?_) (fun c_55 => ?_)
              · refine lv_iinc (v := nI (c + 1)) (lv' := [(6, .int (nI (c + 1))), (5, .int (nI fa)), (4, .int (nI bN)), (3, .int (nI u)), (0, .ref y0), (1, .int (nI my)), (2, .int bu)]) hx hb dX5_part_151 hl (k := 0) rfl (z_inc1 _) (by decide) rfl (fun ls hl => ?_)
                refine lv_goto (tgt := 46) hx hb dX5_part_154 (by decide) ?_
                exact ih_46 (c + 1) bN fa C1 (by omega) (by first | exact inm_skip hin (fun z => z.1 c_55) | exact inm_skip hin (fun z => c_77 z.2) | exact inm_stay hin ⟨c_55, c_77⟩ (Or.inl (by omega)) | exact inm_stay hin ⟨c_55, c_77⟩ (Or.inr ⟨c_112, c_124⟩) | exact inm_take hin ⟨c_55, c_77⟩ (by omega)) (by omega) H locs ls hP hS (lv_sub hl [0, 1, 2, 3, 4, 5, 6] rfl)
              · have hLc := hLm c c_49
                refine lv_aload_n hx hb dX5_part_58 rfl (lv_at hl 4 rfl) ?_
                refine lv_iload_n hx hb dX5_part_59 rfl (lv_at hl 3 rfl) ?_
                refine lv_aload_n hx hb dX5_part_60 rfl (lv_at hl 4 rfl) ?_
                refine va_get (v := .ref y2) hx hb hts hi_5 hown hK hP 0 rfl rfl 3 (by decide) f_13 (fun _ h => h) rfl dX5_part_61 ?_
                refine lv_iload hx hb dX5_part_64 (lv_at hl 0 rfl) ?_
                refine z_ialdN hx hb hK hP 2 0 rfl rfl (by omega) (by decide) dX5_part_66 ?_
                refine z_roV (As := [.int (nI u), .int (nI (Lm c))]) (rest := []) ⟨hx, hb, hml, hown, hts⟩ (c_X5_keyAt l D cI y0 y1 y2 y3 y4 y5 th k n q sg rp lo ea go ak gn gf t u (Lm c) (by first | assumption | omega) (by omega) (by omega)) (cwV 2 hts gX5_part_X5_keyAt rfl rfl rfl hd_X5_keyAt ⟨Nat.le_of_ble_eq_true rfl, Nat.le_of_ble_eq_true rfl⟩) ⟨hK, hE⟩ (hP.sub (ws' := [(y0, .inr (5, [.int (nI th), .int (nI k), .ref y1, .ref y2, .int (nI n), .ref y3, .int (nI q), .int (nI sg), .int rp, .int lo, .int ea, .ref y4, .ref y5, .int (nI go), .int (nI ak), .int (nI gn), .int (nI gf)])), (y3, .inl (cI, 24, .inl (nA t)))]) [0, 3] rfl) (va_recv hK hP (ci := 5) (q0 := 0) rfl rfl) rfl hl.1 rfl (Nat.le_of_ble_eq_true rfl) dX5_part_67 (Nat.zero_le _) (Nat.zero_le _) ?_
                refine lv_aload_n hx hb dX5_part_70 rfl (lv_at hl 4 rfl) ?_
                refine va_get (v := .ref y1) hx hb hts hi_5 hown hK hP 0 rfl rfl 2 (by decide) f_9 (fun _ h => h) rfl dX5_part_71 ?_
                refine lv_iload hx hb dX5_part_74 (lv_at hl 0 rfl) ?_
                refine z_iald hx hb hK hP 1 0 rfl rfl (by omega) (by decide) dX5_part_76 ?_
                refine lv_icmp_eq (tgt := 83) hx hb dX5_part_77 (by decide) (fun c_77 => ?_) (fun c_77 => ?_)
                · have hbb := hM u (by omega) c c_49 ⟨c_55, c_77⟩
                  refine lv_aload_n hx hb dX5_part_83 rfl (lv_at hl 4 rfl) ?_
                  refine va_get (v := .ref y4) hx hb hts hi_5 hown hK hP 0 rfl rfl 11 (by decide) f_23 (fun _ h => h) rfl dX5_part_84 ?_
                  refine lv_iload_n hx hb dX5_part_87 rfl (lv_at hl 3 rfl) ?_
                  refine lv_aload_n hx hb dX5_part_88 rfl (lv_at hl 4 rfl) ?_
                  refine va_get (v := .ref y2) hx hb hts hi_5 hown hK hP 0 rfl rfl 3 (by decide) f_13 (fun _ h => h) rfl dX5_part_89 ?_
                  refine lv_iload hx hb dX5_part_92 (lv_at hl 0 rfl) ?_
                  refine z_ialdN hx hb hK hP 2 0 rfl rfl (by omega) (by decide) dX5_part_94 ?_
                  refine z_iadd hx hb dX5_part_95 ?_
                  refine z_ialdN hx hb hK hP 4 0 rfl rfl (by omega) (by decide) dX5_part_96 ?_
                  refine lv_iconst (v := nI 1) hx hb dX5_part_97 ci_1 ?_
                  refine z_iadd hx hb dX5_part_98 ?_
                  refine lv_istore (lv' := [(7, .int (nI ((Fw (u + (Lm c))) + 1))), (6, .int (nI c)), (5, .int (nI fa)), (4, .int (nI bN)), (3, .int (nI u)), (0, .ref y0), (1, .int (nI my)), (2, .int bu)]) hx hb dX5_part_99 hl (by decide) rfl (fun ls hl => ?_)
                  have hbd : Bd n u Fw (cdoM (mtM t n K Lm bu) Lm Fw u c) := cdoM_b hM (by omega) c (by omega)
                  rw [← hin.2] at hbd
                  obtain ⟨d1, d2, d3, d4⟩ := hbd
                  dsimp only at d1 d2 d3 d4
                  have d5 := hout.2.2.1 (u + 1) (by omega) (by omega)
                  have d6 := hout.2.2.1 (u + Lm c) (by omega) (by omega)
                  refine lv_iload hx hb dX5_part_101 (lv_at hl 0 rfl) ?_
                  refine lv_iload hx hb dX5_part_103 (lv_at hl 3 rfl) ?_
                  refine z_icmp_gt (tgt := 151) hx hb dX5_part_105 (by decide) (by omega) (by omega) (fun c_105 => ?_) (fun c_105 => ?_)
                  · refine lv_iinc (v := nI (c + 1)) (lv' := [(6, .int (nI (c + 1))), (7, .int (nI ((Fw (u + (Lm c))) + 1))), (5, .int (nI fa)), (4, .int (nI bN)), (3, .int (nI u)), (0, .ref y0), (1, .int (nI my)), (2, .int bu)]) hx hb dX5_part_151 hl (k := 1) rfl (z_inc1 _) (by decide) rfl (fun ls hl => ?_)
                    refine lv_goto (tgt := 46) hx hb dX5_part_154 (by decide) ?_
                    exact ih_46 (c + 1) bN fa C1 (by omega) (by first | exact inm_skip hin (fun z => z.1 c_55) | exact inm_skip hin (fun z => c_77 z.2) | exact inm_stay hin ⟨c_55, c_77⟩ (Or.inl (by omega)) | exact inm_stay hin ⟨c_55, c_77⟩ (Or.inr ⟨c_112, c_124⟩) | exact inm_take hin ⟨c_55, c_77⟩ (by omega)) (by omega) H locs ls hP hS (lv_sub hl [0, 2, 3, 4, 5, 6, 7] rfl)
                  · refine lv_iload hx hb dX5_part_108 (lv_at hl 0 rfl) ?_
                    refine lv_iload hx hb dX5_part_110 (lv_at hl 3 rfl) ?_
                    refine z_icmp_ne (tgt := 130) hx hb dX5_part_112 (by decide) (by omega) (by omega) (fun c_112 => ?_) (fun c_112 => ?_)
                    · refine lv_iload hx hb dX5_part_130 (lv_at hl 0 rfl) ?_
                      refine lv_istore (lv' := [(4, .int (nI ((Fw (u + (Lm c))) + 1))), (7, .int (nI ((Fw (u + (Lm c))) + 1))), (6, .int (nI c)), (5, .int (nI fa)), (3, .int (nI u)), (0, .ref y0), (1, .int (nI my)), (2, .int bu)]) hx hb dX5_part_132 hl (by decide) rfl (fun ls hl => ?_)
                      refine lv_aload_n hx hb dX5_part_134 rfl (lv_at hl 5 rfl) ?_
                      refine va_get (v := .ref y2) hx hb hts hi_5 hown hK hP 0 rfl rfl 3 (by decide) f_13 (fun _ h => h) rfl dX5_part_135 ?_
                      refine lv_iload hx hb dX5_part_138 (lv_at hl 2 rfl) ?_
                      refine z_ialdN hx hb hK hP 2 0 rfl rfl (by omega) (by decide) dX5_part_140 ?_
                      refine lv_istore (lv' := [(5, .int (nI (Lm c))), (4, .int (nI ((Fw (u + (Lm c))) + 1))), (7, .int (nI ((Fw (u + (Lm c))) + 1))), (6, .int (nI c)), (3, .int (nI u)), (0, .ref y0), (1, .int (nI my)), (2, .int bu)]) hx hb dX5_part_141 hl (by decide) rfl (fun ls hl => ?_)
                      refine lv_aload_n hx hb dX5_part_143 rfl (lv_at hl 5 rfl) ?_
                      refine va_get (v := .ref y5) hx hb hts hi_5 hown hK hP 0 rfl rfl 12 (by decide) f_26 (fun _ h => h) rfl dX5_part_144 ?_
                      refine lv_iload_n hx hb dX5_part_147 rfl (lv_at hl 4 rfl) ?_
                      refine lv_iload hx hb dX5_part_148 (lv_at hl 3 rfl) ?_
                      refine z_iast hx hb hK hP hD rfl hS 5 0 rfl rfl (by omega) (by decide) dX5_part_150 (fun H locs hP hS => ?_)
                      have hP : va_P D vwCl [(y0, .inr (5, [.int (nI th), .int (nI k), .ref y1, .ref y2, .int (nI n), .ref y3, .int (nI q), .int (nI sg), .int rp, .int lo, .int ea, .ref y4, .ref y5, .int (nI go), .int (nI ak), .int (nI gn), .int (nI gf)])), (y1, .inl (cI, 9, .inl K)), (y2, .inl (cI, 9, .inl (nA Lm))), (y3, .inl (cI, 24, .inl (nA t))), (y4, .inl (cI, 25, .inl (nA Fw))), (y5, .inl (cI, 24, .inl (upd C1 u (nI c))))] H := hP
                      refine lv_iinc (v := nI (c + 1)) (lv' := [(6, .int (nI (c + 1))), (5, .int (nI (Lm c))), (4, .int (nI ((Fw (u + (Lm c))) + 1))), (7, .int (nI ((Fw (u + (Lm c))) + 1))), (3, .int (nI u)), (0, .ref y0), (1, .int (nI my)), (2, .int bu)]) hx hb dX5_part_151 hl (k := 3) rfl (z_inc1 _) (by decide) rfl (fun ls hl => ?_)
                      refine lv_goto (tgt := 46) hx hb dX5_part_154 (by decide) ?_
                      exact ih_46 (c + 1) ((Fw (u + (Lm c))) + 1) (Lm c) (upd C1 u (nI c)) (by omega) (by first | exact inm_skip hin (fun z => z.1 c_55) | exact inm_skip hin (fun z => c_77 z.2) | exact inm_stay hin ⟨c_55, c_77⟩ (Or.inl (by omega)) | exact inm_stay hin ⟨c_55, c_77⟩ (Or.inr ⟨c_112, c_124⟩) | exact inm_take hin ⟨c_55, c_77⟩ (by omega)) (by omega) H locs ls hP hS (lv_sub hl [0, 1, 2, 4, 5, 6, 7] rfl)
                    · refine lv_aload_n hx hb dX5_part_115 rfl (lv_at hl 5 rfl) ?_
                      refine va_get (v := .ref y2) hx hb hts hi_5 hown hK hP 0 rfl rfl 3 (by decide) f_13 (fun _ h => h) rfl dX5_part_116 ?_
                      refine lv_iload hx hb dX5_part_119 (lv_at hl 1 rfl) ?_
                      refine z_ialdN hx hb hK hP 2 0 rfl rfl (by omega) (by decide) dX5_part_121 ?_
                      refine lv_iload hx hb dX5_part_122 (lv_at hl 2 rfl) ?_
                      refine z_icmp_ge (tgt := 130) hx hb dX5_part_124 (by decide) (by omega) (by omega) (fun c_124 => ?_) (fun c_124 => ?_)
                      · refine lv_iload hx hb dX5_part_130 (lv_at hl 0 rfl) ?_
                        refine lv_istore (lv' := [(4, .int (nI ((Fw (u + (Lm c))) + 1))), (7, .int (nI ((Fw (u + (Lm c))) + 1))), (6, .int (nI c)), (5, .int (nI fa)), (3, .int (nI u)), (0, .ref y0), (1, .int (nI my)), (2, .int bu)]) hx hb dX5_part_132 hl (by decide) rfl (fun ls hl => ?_)
                        refine lv_aload_n hx hb dX5_part_134 rfl (lv_at hl 5 rfl) ?_
                        refine va_get (v := .ref y2) hx hb hts hi_5 hown hK hP 0 rfl rfl 3 (by decide) f_13 (fun _ h => h) rfl dX5_part_135 ?_
                        refine lv_iload hx hb dX5_part_138 (lv_at hl 2 rfl) ?_
                        refine z_ialdN hx hb hK hP 2 0 rfl rfl (by omega) (by decide) dX5_part_140 ?_
                        refine lv_istore (lv' := [(5, .int (nI (Lm c))), (4, .int (nI ((Fw (u + (Lm c))) + 1))), (7, .int (nI ((Fw (u + (Lm c))) + 1))), (6, .int (nI c)), (3, .int (nI u)), (0, .ref y0), (1, .int (nI my)), (2, .int bu)]) hx hb dX5_part_141 hl (by decide) rfl (fun ls hl => ?_)
                        refine lv_aload_n hx hb dX5_part_143 rfl (lv_at hl 5 rfl) ?_
                        refine va_get (v := .ref y5) hx hb hts hi_5 hown hK hP 0 rfl rfl 12 (by decide) f_26 (fun _ h => h) rfl dX5_part_144 ?_
                        refine lv_iload_n hx hb dX5_part_147 rfl (lv_at hl 4 rfl) ?_
                        refine lv_iload hx hb dX5_part_148 (lv_at hl 3 rfl) ?_
                        refine z_iast hx hb hK hP hD rfl hS 5 0 rfl rfl (by omega) (by decide) dX5_part_150 (fun H locs hP hS => ?_)
                        have hP : va_P D vwCl [(y0, .inr (5, [.int (nI th), .int (nI k), .ref y1, .ref y2, .int (nI n), .ref y3, .int (nI q), .int (nI sg), .int rp, .int lo, .int ea, .ref y4, .ref y5, .int (nI go), .int (nI ak), .int (nI gn), .int (nI gf)])), (y1, .inl (cI, 9, .inl K)), (y2, .inl (cI, 9, .inl (nA Lm))), (y3, .inl (cI, 24, .inl (nA t))), (y4, .inl (cI, 25, .inl (nA Fw))), (y5, .inl (cI, 24, .inl (upd C1 u (nI c))))] H := hP
                        refine lv_iinc (v := nI (c + 1)) (lv' := [(6, .int (nI (c + 1))), (5, .int (nI (Lm c))), (4, .int (nI ((Fw (u + (Lm c))) + 1))), (7, .int (nI ((Fw (u + (Lm c))) + 1))), (3, .int (nI u)), (0, .ref y0), (1, .int (nI my)), (2, .int bu)]) hx hb dX5_part_151 hl (k := 3) rfl (z_inc1 _) (by decide) rfl (fun ls hl => ?_)
                        refine lv_goto (tgt := 46) hx hb dX5_part_154 (by decide) ?_
                        exact ih_46 (c + 1) ((Fw (u + (Lm c))) + 1) (Lm c) (upd C1 u (nI c)) (by omega) (by first | exact inm_skip hin (fun z => z.1 c_55) | exact inm_skip hin (fun z => c_77 z.2) | exact inm_stay hin ⟨c_55, c_77⟩ (Or.inl (by omega)) | exact inm_stay hin ⟨c_55, c_77⟩ (Or.inr ⟨c_112, c_124⟩) | exact inm_take hin ⟨c_55, c_77⟩ (by omega)) (by omega) H locs ls hP hS (lv_sub hl [0, 1, 2, 4, 5, 6, 7] rfl)
                      · refine lv_goto (tgt := 151) hx hb dX5_part_127 (by decide) ?_
                        refine lv_iinc (v := nI (c + 1)) (lv' := [(6, .int (nI (c + 1))), (7, .int (nI ((Fw (u + (Lm c))) + 1))), (5, .int (nI fa)), (4, .int (nI bN)), (3, .int (nI u)), (0, .ref y0), (1, .int (nI my)), (2, .int bu)]) hx hb dX5_part_151 hl (k := 1) rfl (z_inc1 _) (by decide) rfl (fun ls hl => ?_)
                        refine lv_goto (tgt := 46) hx hb dX5_part_154 (by decide) ?_
                        exact ih_46 (c + 1) bN fa C1 (by omega) (by first | exact inm_skip hin (fun z => z.1 c_55) | exact inm_skip hin (fun z => c_77 z.2) | exact inm_stay hin ⟨c_55, c_77⟩ (Or.inl (by omega)) | exact inm_stay hin ⟨c_55, c_77⟩ (Or.inr ⟨c_112, c_124⟩) | exact inm_take hin ⟨c_55, c_77⟩ (by omega)) (by omega) H locs ls hP hS (lv_sub hl [0, 2, 3, 4, 5, 6, 7] rfl)
                · refine lv_goto (tgt := 151) hx hb dX5_part_80 (by decide) ?_
                  refine lv_iinc (v := nI (c + 1)) (lv' := [(6, .int (nI (c + 1))), (5, .int (nI fa)), (4, .int (nI bN)), (3, .int (nI u)), (0, .ref y0), (1, .int (nI my)), (2, .int bu)]) hx hb dX5_part_151 hl (k := 0) rfl (z_inc1 _) (by decide) rfl (fun ls hl => ?_)
                  refine lv_goto (tgt := 46) hx hb dX5_part_154 (by decide) ?_
                  exact ih_46 (c + 1) bN fa C1 (by omega) (by first | exact inm_skip hin (fun z => z.1 c_55) | exact inm_skip hin (fun z => c_77 z.2) | exact inm_stay hin ⟨c_55, c_77⟩ (Or.inl (by omega)) | exact inm_stay hin ⟨c_55, c_77⟩ (Or.inr ⟨c_112, c_124⟩) | exact inm_take hin ⟨c_55, c_77⟩ (by omega)) (by omega) H locs ls hP hS (lv_sub hl [0, 1, 2, 3, 4, 5, 6] rfl)
        exact lp_46 ((my - 0) + 1) 0 ((Fw (u + 1)) + 1) 1 (upd C0 u (-1)) (Nat.zero_le _) inm_0 (Nat.lt_succ_self _) H locs ls hP hS hl
  exact lp_17 ((n) + 1) n (updN f n 0) (fun _ => 0) C (Nat.le_refl _) om_0 (Nat.lt_succ_self _) H locs ls hP hS hl
