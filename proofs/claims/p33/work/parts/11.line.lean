theorem hd_X3_sentAtEnd : yX3_sentAtEnd.cls = RX3 ∧ yX3_sentAtEnd.cls ≠ "java/lang/invoke/MethodHandle" ∧ yX3_sentAtEnd.cls ≠ "java/lang/invoke/VarHandle" ∧ (parseMethodDescriptor yX3_sentAtEnd.desc).map (fun d => d.parameters.length) = some 0 := by decide +kernel
theorem hd_X3_garbledAtFirst : yX3_garbledAtFirst.cls = RX3 ∧ yX3_garbledAtFirst.cls ≠ "java/lang/invoke/MethodHandle" ∧ yX3_garbledAtFirst.cls ≠ "java/lang/invoke/VarHandle" ∧ (parseMethodDescriptor yX3_garbledAtFirst.desc).map (fun d => d.parameters.length) = some 0 := by decide +kernel
theorem hd_X3_repeatsAsked : yX3_repeatsAsked.cls = RX3 ∧ yX3_repeatsAsked.cls ≠ "java/lang/invoke/MethodHandle" ∧ yX3_repeatsAsked.cls ≠ "java/lang/invoke/VarHandle" ∧ (parseMethodDescriptor yX3_repeatsAsked.desc).map (fun d => d.parameters.length) = some 0 := by decide +kernel
theorem hd_X3_groupsLost : yX3_groupsLost.cls = RX3 ∧ yX3_groupsLost.cls ≠ "java/lang/invoke/MethodHandle" ∧ yX3_groupsLost.cls ≠ "java/lang/invoke/VarHandle" ∧ (parseMethodDescriptor yX3_groupsLost.desc).map (fun d => d.parameters.length) = some 0 := by decide +kernel
theorem hd_X3_isNextGarbled : yX3_isNextGarbled.cls = RX3 ∧ yX3_isNextGarbled.cls ≠ "java/lang/invoke/MethodHandle" ∧ yX3_isNextGarbled.cls ≠ "java/lang/invoke/VarHandle" ∧ (parseMethodDescriptor yX3_isNextGarbled.desc).map (fun d => d.parameters.length) = some 1 := by decide +kernel
theorem hd_X3_pass : yX3_pass.cls = RX3 ∧ yX3_pass.cls ≠ "java/lang/invoke/MethodHandle" ∧ yX3_pass.cls ≠ "java/lang/invoke/VarHandle" ∧ (parseMethodDescriptor yX3_pass.desc).map (fun d => d.parameters.length) = some 1 := by decide +kernel
theorem hd_X3_run : yX3_run.cls = RX3 ∧ yX3_run.cls ≠ "java/lang/invoke/MethodHandle" ∧ yX3_run.cls ≠ "java/lang/invoke/VarHandle" ∧ (parseMethodDescriptor yX3_run.desc).map (fun d => d.parameters.length) = some 3 := by decide +kernel
theorem hd_X4_isGarbled : yX4_isGarbled.cls ≠ "java/lang/invoke/MethodHandle" ∧ yX4_isGarbled.cls ≠ "java/lang/invoke/VarHandle" ∧ (parseMethodDescriptor yX4_isGarbled.desc).map (fun d => d.parameters.length) = some 2 := by decide +kernel
abbrev rm_X4_isGarbled : Room := { frames := 0, cells := 0, slots := 0, locals := 0 }
abbrev rm_X3_sentAtEnd : Room := { frames := 0, cells := 0, slots := 0, locals := 0 }
abbrev rm_X3_garbledAtFirst : Room := { frames := 0, cells := 0, slots := 0, locals := 0 }
abbrev rm_X3_repeatsAsked : Room := { frames := 0, cells := 0, slots := 0, locals := 0 }
abbrev rm_X3_groupsLost : Room := { frames := 0, cells := 0, slots := 0, locals := 0 }
abbrev rm_X3_isNextGarbled : Room := { frames := 1, cells := 0, slots := 0, locals := 21 }
abbrev rm_X3_pass : Room := { frames := 2, cells := 0, slots := 0, locals := 42 }
abbrev rm_X3_run : Room := { frames := 3, cells := 0, slots := 0, locals := 65 }
set_option maxHeartbeats 4000000 in
set_option maxRecDepth 100000 in
theorem c_X4_isGarbled (l : Launch) (D : va_G) (cI : ClassId) (x : Nat) (q : Nat) (hx : x ≤ 200000) (hq : q ≤ 9) : RO l yX4_isGarbled wsX4_isGarbled rm_X4_isGarbled D cI [] [.int (nI x), .int (nI q)] (.int (z1 (gB q x))) := by
  refine ro_of (C := RX4) (cc := cX4_isGarbled) (maxL := 2) (ret := (some .boolean)) rfl (by decide) rfl (Nat.le_of_ble_eq_true rfl) ?_
  intro pg ev sv mi ag bl mt cd ls Q hQ hx hb hr hlocks hml hts hown hK hE hP hl
  have hP : va_P D vwCl [] sv.heap := hP
  have hl : lv_has ls 2 [(0, .int (nI x)), (1, .int (nI q))] := hl
  refine lv_iload_n hx hb dX4_isGarbled_0 rfl (lv_at hl 0 rfl) ?_
  refine z_bipush (n := 7) hx hb rfl (by decide) dX4_isGarbled_1 ?_
  refine z_imul hx hb dX4_isGarbled_3 ?_
  refine lv_iload_n hx hb dX4_isGarbled_4 rfl (lv_at hl 0 rfl) ?_
  refine z_bipush (n := 10) hx hb rfl (by decide) dX4_isGarbled_5 ?_
  refine z_idiv hx hb dX4_isGarbled_7 (by omega) (by omega) (by omega) ?_
  refine z_iadd hx hb dX4_isGarbled_8 ?_
  refine z_bipush (n := 10) hx hb rfl (by decide) dX4_isGarbled_9 ?_
  refine z_irem hx hb dX4_isGarbled_11 (by omega) (by omega) (by omega) ?_
  refine lv_iload_n hx hb dX4_isGarbled_12 rfl (lv_at hl 1 rfl) ?_
  refine z_icmp_lt (tgt := 20) hx hb dX4_isGarbled_13 (by decide) (by omega) (by omega) (fun c_13 => ?_) (fun c_13 => ?_)
  · refine lv_iconst (v := nI 0) hx hb dX4_isGarbled_20 ci_0 ?_
    exact ro_zret hQ hx hb hr hlocks (z1_0 (by unfold gB; omega)) dX4_isGarbled_21
  · refine lv_iconst (v := nI 1) hx hb dX4_isGarbled_16 ci_1 ?_
    refine lv_goto (tgt := 21) hx hb dX4_isGarbled_17 (by decide) ?_
    exact ro_zret hQ hx hb hr hlocks (z1_1 (by unfold gB; omega)) dX4_isGarbled_21
set_option maxHeartbeats 4000000 in
set_option maxRecDepth 100000 in
theorem c_X3_sentAtEnd (l : Launch) (D : va_G) (cI : ClassId) (q0 : Nat) (se : Nat) (gf : Nat) (ak : Nat) (gn : Nat) : RO l yX3_sentAtEnd wsX3_sentAtEnd rm_X3_sentAtEnd D cI [(q0, .inr (3, [.int (nI se), .int (nI gf), .int (nI ak), .int (nI gn)]))] [.ref q0] (.int (nI se)) := by
  refine ro_of (C := RX3) (cc := cX3_sentAtEnd) (maxL := 1) (ret := (some .int)) rfl (by decide) rfl (Nat.le_of_ble_eq_true rfl) ?_
  intro pg ev sv mi ag bl mt cd ls Q hQ hx hb hr hlocks hml hts hown hK hE hP hl
  have hP : va_P D vwCl [(q0, .inr (3, [.int (nI se), .int (nI gf), .int (nI ak), .int (nI gn)]))] sv.heap := hP
  have hl : lv_has ls 1 [(0, .ref q0)] := hl
  have f_9 := hts (.fieldLink RX3 9 "TelegraphDesk$Passage" "sent" "I") (by decide +kernel)
  have hi_3 : ∀ w ∈ wsX30, w ∈ wsX3_sentAtEnd := by decide +kernel
  refine lv_aload_n hx hb dX3_sentAtEnd_0 rfl (lv_at hl 0 rfl) ?_
  refine va_get (v := .int (nI se)) hx hb hts hi_3 hown hK hP 0 rfl rfl 0 (by decide) f_9 (fun _ h => h) rfl dX3_sentAtEnd_1 ?_
  exact ro_iret hQ hx hb hr hlocks rfl dX3_sentAtEnd_4
set_option maxHeartbeats 4000000 in
set_option maxRecDepth 100000 in
theorem c_X3_garbledAtFirst (l : Launch) (D : va_G) (cI : ClassId) (q0 : Nat) (se : Nat) (gf : Nat) (ak : Nat) (gn : Nat) : RO l yX3_garbledAtFirst wsX3_garbledAtFirst rm_X3_garbledAtFirst D cI [(q0, .inr (3, [.int (nI se), .int (nI gf), .int (nI ak), .int (nI gn)]))] [.ref q0] (.int (nI gf)) := by
  refine ro_of (C := RX3) (cc := cX3_garbledAtFirst) (maxL := 1) (ret := (some .int)) rfl (by decide) rfl (Nat.le_of_ble_eq_true rfl) ?_
  intro pg ev sv mi ag bl mt cd ls Q hQ hx hb hr hlocks hml hts hown hK hE hP hl
  have hP : va_P D vwCl [(q0, .inr (3, [.int (nI se), .int (nI gf), .int (nI ak), .int (nI gn)]))] sv.heap := hP
  have hl : lv_has ls 1 [(0, .ref q0)] := hl
  have f_15 := hts (.fieldLink RX3 15 "TelegraphDesk$Passage" "garbledFirst" "I") (by decide +kernel)
  have hi_3 : ∀ w ∈ wsX30, w ∈ wsX3_garbledAtFirst := by decide +kernel
  refine lv_aload_n hx hb dX3_garbledAtFirst_0 rfl (lv_at hl 0 rfl) ?_
  refine va_get (v := .int (nI gf)) hx hb hts hi_3 hown hK hP 0 rfl rfl 1 (by decide) f_15 (fun _ h => h) rfl dX3_garbledAtFirst_1 ?_
  exact ro_iret hQ hx hb hr hlocks rfl dX3_garbledAtFirst_4
set_option maxHeartbeats 4000000 in
set_option maxRecDepth 100000 in
theorem c_X3_repeatsAsked (l : Launch) (D : va_G) (cI : ClassId) (q0 : Nat) (se : Nat) (gf : Nat) (ak : Nat) (gn : Nat) : RO l yX3_repeatsAsked wsX3_repeatsAsked rm_X3_repeatsAsked D cI [(q0, .inr (3, [.int (nI se), .int (nI gf), .int (nI ak), .int (nI gn)]))] [.ref q0] (.int (nI ak)) := by
  refine ro_of (C := RX3) (cc := cX3_repeatsAsked) (maxL := 1) (ret := (some .int)) rfl (by decide) rfl (Nat.le_of_ble_eq_true rfl) ?_
  intro pg ev sv mi ag bl mt cd ls Q hQ hx hb hr hlocks hml hts hown hK hE hP hl
  have hP : va_P D vwCl [(q0, .inr (3, [.int (nI se), .int (nI gf), .int (nI ak), .int (nI gn)]))] sv.heap := hP
  have hl : lv_has ls 1 [(0, .ref q0)] := hl
  have f_18 := hts (.fieldLink RX3 18 "TelegraphDesk$Passage" "asked" "I") (by decide +kernel)
  have hi_3 : ∀ w ∈ wsX30, w ∈ wsX3_repeatsAsked := by decide +kernel
  refine lv_aload_n hx hb dX3_repeatsAsked_0 rfl (lv_at hl 0 rfl) ?_
  refine va_get (v := .int (nI ak)) hx hb hts hi_3 hown hK hP 0 rfl rfl 2 (by decide) f_18 (fun _ h => h) rfl dX3_repeatsAsked_1 ?_
  exact ro_iret hQ hx hb hr hlocks rfl dX3_repeatsAsked_4
set_option maxHeartbeats 4000000 in
set_option maxRecDepth 100000 in
theorem c_X3_groupsLost (l : Launch) (D : va_G) (cI : ClassId) (q0 : Nat) (se : Nat) (gf : Nat) (ak : Nat) (gn : Nat) : RO l yX3_groupsLost wsX3_groupsLost rm_X3_groupsLost D cI [(q0, .inr (3, [.int (nI se), .int (nI gf), .int (nI ak), .int (nI gn)]))] [.ref q0] (.int (nI gn)) := by
  refine ro_of (C := RX3) (cc := cX3_groupsLost) (maxL := 1) (ret := (some .int)) rfl (by decide) rfl (Nat.le_of_ble_eq_true rfl) ?_
  intro pg ev sv mi ag bl mt cd ls Q hQ hx hb hr hlocks hml hts hown hK hE hP hl
  have hP : va_P D vwCl [(q0, .inr (3, [.int (nI se), .int (nI gf), .int (nI ak), .int (nI gn)]))] sv.heap := hP
  have hl : lv_has ls 1 [(0, .ref q0)] := hl
  have f_21 := hts (.fieldLink RX3 21 "TelegraphDesk$Passage" "gone" "I") (by decide +kernel)
  have hi_3 : ∀ w ∈ wsX30, w ∈ wsX3_groupsLost := by decide +kernel
  refine lv_aload_n hx hb dX3_groupsLost_0 rfl (lv_at hl 0 rfl) ?_
  refine va_get (v := .int (nI gn)) hx hb hts hi_3 hown hK hP 0 rfl rfl 3 (by decide) f_21 (fun _ h => h) rfl dX3_groupsLost_1 ?_
  exact ro_iret hQ hx hb hr hlocks rfl dX3_groupsLost_4
set_option maxHeartbeats 4000000 in
set_option maxRecDepth 100000 in
theorem c_X3_isNextGarbled (l : Launch) (D : va_G) (cI : ClassId) (q0 : Nat) (se : Nat) (gf : Nat) (ak : Nat) (gn : Nat) (q : Nat) (hse : se ≤ 100000) (hq : q ≤ 9) : MU l yX3_isNextGarbled wsX3_isNextGarbled rm_X3_isNextGarbled D cI [(q0, .inr (3, [.int (nI se), .int (nI gf), .int (nI ak), .int (nI gn)]))] [.ref q0, .int (nI q)] (fun (v9 : Option Value) (u9 : Unit) => v9 = some (.int (z1 (gB q (se + 1))))) (fun (u9 : Unit) => [(q0, .inr (3, [.int (nI (se + 1)), .int (nI gf), .int (nI ak), .int (nI gn)]))]) := by
  refine mu_of (C := RX3) (cc := cX3_isNextGarbled) (maxL := 2) (ret := (some .boolean)) rfl (by decide) rfl (Nat.le_of_ble_eq_true rfl) ?_
  intro pg ev sv mi ag bl mt cd ls Q A hA hQ hx hb hr hlocks hml hts hown hK hE hD H locs hP hS hl
  have hD : zDD A [q0] := hD
  have hl : lv_has ls 2 [(0, .ref q0), (1, .int (nI q))] := hl
  have f_9 := hts (.fieldLink RX3 9 "TelegraphDesk$Passage" "sent" "I") (by decide +kernel)
  have hi_3 : ∀ w ∈ wsX30, w ∈ wsX3_isNextGarbled := by decide +kernel
  refine lv_aload_n hx hb dX3_isNextGarbled_0 rfl (lv_at hl 0 rfl) ?_
  refine lv_dup hx hb dX3_isNextGarbled_1 rfl ?_
  refine va_get (v := .int (nI se)) hx hb hts hi_3 hown hK hP 0 rfl rfl 0 (by decide) f_9 (fun _ h => h) rfl dX3_isNextGarbled_2 ?_
  refine lv_iconst (v := nI 1) hx hb dX3_isNextGarbled_5 ci_1 ?_
  refine z_iadd hx hb dX3_isNextGarbled_6 ?_
  refine z_put hx hb hts hi_3 tyX3 tyX3_ok nmX3 hown hK hP hD rfl hS 0 rfl rfl 0 (by decide) f_9 (fun _ h => h) rfl (by decide +kernel) (Nat.le_of_ble_eq_true rfl) dX3_isNextGarbled_7 (fun H locs hP hS => ?_)
  have hP : va_P D vwCl [(q0, .inr (3, [.int (nI (se + 1)), .int (nI gf), .int (nI ak), .int (nI gn)]))] H := hP
  refine lv_aload_n hx hb dX3_isNextGarbled_10 rfl (lv_at hl 0 rfl) ?_
  refine va_get (v := .int (nI (se + 1))) hx hb hts hi_3 hown hK hP 0 rfl rfl 0 (by decide) f_9 (fun _ h => h) rfl dX3_isNextGarbled_11 ?_
  refine lv_iload_n hx hb dX3_isNextGarbled_14 rfl (lv_at hl 1 rfl) ?_
  refine z_roSN (As := [.int (nI (se + 1)), .int (nI q)]) (rest := []) ⟨hx, hb, hml, hown, hts⟩ (c_X4_isGarbled l D cI (se + 1) q (by omega) hq) ⟨va_cnB 2 hts gX3_isNextGarbled_X4_isGarbled_n32 rfl rfl rfl hE.2.1 (hts (.initialized RX4) (by decide +kernel)) (by decide +kernel) ⟨Nat.le_of_ble_eq_true rfl, Nat.le_of_ble_eq_true rfl⟩, hts (.static yX4_isGarbled) (by decide +kernel), trivial⟩ ⟨hK, hE⟩ (va_P_nil _ _ _) rfl hl.1 rfl (Nat.le_of_ble_eq_true rfl) dX3_isNextGarbled_15 (Nat.zero_le _) (Nat.zero_le _) ?_
  exact mu_zret hA hQ hx hb hr hlocks rfl () hP hS rfl dX3_isNextGarbled_18
set_option maxHeartbeats 4000000 in
set_option maxRecDepth 100000 in
theorem c_X3_pass (l : Launch) (D : va_G) (cI : ClassId) (q0 : Nat) (se : Nat) (gf : Nat) (ak : Nat) (gn : Nat) (q : Nat) (hse : se ≤ 90000) (hq : q ≤ 9) : MU l yX3_pass wsX3_pass rm_X3_pass D cI [(q0, .inr (3, [.int (nI se), .int (nI gf), .int (nI ak), .int (nI gn)]))] [.ref q0, .int (nI q)] (fun (v9 : Option Value) (u9 : Nat × Nat × Nat × Nat) => v9 = none ∧ (u9.1 = se + 1 + rpt q se) ∧ (u9.2.1 = gf + gst q se) ∧ (u9.2.2.1 = ak + rpt q se) ∧ (u9.2.2.2 = gn + lst q se)) (fun (u9 : Nat × Nat × Nat × Nat) => [(q0, .inr (3, [.int (nI u9.1), .int (nI u9.2.1), .int (nI u9.2.2.1), .int (nI u9.2.2.2)]))]) := by
  refine mu_of (C := RX3) (cc := cX3_pass) (maxL := 4) (ret := none) rfl (by decide) rfl (Nat.le_of_ble_eq_true rfl) ?_
  intro pg ev sv mi ag bl mt cd ls Q A hA hQ hx hb hr hlocks hml hts hown hK hE hD H locs hP hS hl
  have hD : zDD A [q0] := hD
  have hl : lv_has ls 4 [(0, .ref q0), (1, .int (nI q))] := hl
  have f_18 := hts (.fieldLink RX3 18 "TelegraphDesk$Passage" "asked" "I") (by decide +kernel)
  have f_21 := hts (.fieldLink RX3 21 "TelegraphDesk$Passage" "gone" "I") (by decide +kernel)
  have f_15 := hts (.fieldLink RX3 15 "TelegraphDesk$Passage" "garbledFirst" "I") (by decide +kernel)
  have hi_3 : ∀ w ∈ wsX30, w ∈ wsX3_pass := by decide +kernel
  refine lv_aload_n hx hb dX3_pass_0 rfl (lv_at hl 0 rfl) ?_
  refine lv_iload_n hx hb dX3_pass_1 rfl (lv_at hl 1 rfl) ?_
  refine z_muV (As := [.int (nI q)]) (rest := []) ⟨hx, hb, hml, hown, hts⟩ (c_X3_isNextGarbled l D cI q0 se gf ak gn q (by omega) (by first | assumption | omega)) (cwV 1 hts gX3_pass_X3_isNextGarbled rfl rfl rfl hd_X3_isNextGarbled ⟨Nat.le_of_ble_eq_true rfl, Nat.le_of_ble_eq_true rfl⟩) ⟨hK, hE⟩ hP hD rfl hS [0] (by decide) rfl (fun _ => rfl) (va_recv hK hP (ci := 3) (q0 := 0) rfl rfl) rfl hl.1 rfl (Nat.le_of_ble_eq_true rfl) dX3_pass_2 (Nat.zero_le _) (Nat.zero_le _) (fun v9 u9 H locs hp hP hS => ?_)
  obtain rfl := hp
  have hP : va_P D vwCl [(q0, .inr (3, [.int (nI (se + 1)), .int (nI gf), .int (nI ak), .int (nI gn)]))] H := hP
  refine W.eq (g2 := F0 mi 5 ls [.int (z1 (gB q (se + 1)))]) rfl ?_
  refine lv_istore_n (lv' := [(2, .int (z1 (gB q (se + 1)))), (0, .ref q0), (1, .int (nI q))]) hx hb dX3_pass_5 rfl hl (by decide) rfl (fun ls hl => ?_)
  refine lv_iload_n hx hb dX3_pass_6 rfl (lv_at hl 0 rfl) ?_
  refine z_if_eqP (tgt := 20) hx hb dX3_pass_7 (by decide) (fun c_7 => ?_) (fun c_7 => ?_)
  · refine lv_iconst (v := nI 0) hx hb dX3_pass_20 ci_0 ?_
    refine lv_istore_n (lv' := [(3, .int (nI 0)), (2, .int (z1 (gB q (se + 1)))), (0, .ref q0), (1, .int (nI q))]) hx hb dX3_pass_21 rfl hl (by decide) rfl (fun ls hl => ?_)
    have lp_22 : ∀ (Nf : Nat) (r : Nat) (hr3 : r ≤ 3) (hall : ∀ j, j < r → gB q (se + 1 + j)) (hN : 3 - r < Nf) (H : Heap) (locs : List Loc) (ls : Array Slot), va_P D vwCl [(q0, .inr (3, [.int (nI (se + 1 + r)), .int (nI gf), .int (nI ak), .int (nI gn)]))] H → va_S A sv.heap H locs → lv_has ls 4 [(3, .int (nI r)), (2, .int (z1 (gB q (se + 1 + r)))), (0, .ref q0), (1, .int (nI q))] → W pg l ev rm_X3_pass sv mi ag bl mt cd H locs 0 0 Q (F0 mi 22 ls []) := by
      intro Nf
      induction Nf with
      | zero =>
        intro r hr3 hall hN
        exact absurd hN (Nat.not_lt_zero _)
      | succ Nf ih_22 =>
        intro r hr3 hall hN H locs ls hP hS hl
        refine lv_iload_n hx hb dX3_pass_22 rfl (lv_at hl 1 rfl) ?_
        refine z_if_eqP (tgt := 43) hx hb dX3_pass_23 (by decide) (fun c_23 => ?_) (fun c_23 => ?_)
        · refine lv_aload_n hx hb dX3_pass_43 rfl (lv_at hl 2 rfl) ?_
          refine lv_dup hx hb dX3_pass_44 rfl ?_
          refine va_get (v := .int (nI ak)) hx hb hts hi_3 hown hK hP 0 rfl rfl 2 (by decide) f_18 (fun _ h => h) rfl dX3_pass_45 ?_
          refine lv_iload_n hx hb dX3_pass_48 rfl (lv_at hl 0 rfl) ?_
          refine z_iadd hx hb dX3_pass_49 ?_
          refine z_put hx hb hts hi_3 tyX3 tyX3_ok nmX3 hown hK hP hD rfl hS 0 rfl rfl 2 (by decide) f_18 (fun _ h => h) rfl (by decide +kernel) (Nat.le_of_ble_eq_true rfl) dX3_pass_50 (fun H locs hP hS => ?_)
          have hP : va_P D vwCl [(q0, .inr (3, [.int (nI (se + 1 + r)), .int (nI gf), .int (nI (ak + r)), .int (nI gn)]))] H := hP
          refine lv_iload_n hx hb dX3_pass_53 rfl (lv_at hl 1 rfl) ?_
          refine z_if_eqP (tgt := 67) hx hb dX3_pass_54 (by decide) (fun c_54 => ?_) (fun c_54 => ?_)
          · exact mu_vret hA hQ hx hb hr hlocks (se + 1 + r, gf, ak + r, gn) hP hS ⟨rfl, (by show se + 1 + r = se + 1 + rpt q se; first | (rw [rpt_of hr3 hall (Or.inr c_23)]; done) | (rw [rpt_of hr3 hall (Or.inl (by omega))]; done)), (by first | (have h9 : gst q se = 1 := zif_t c_7; show gf + 1 = gf + gst q se; omega) | (have h9 : gst q se = 0 := zif_f c_7; show gf = gf + gst q se; omega)), (by show ak + r = ak + rpt q se; first | (rw [rpt_of hr3 hall (Or.inr c_23)]; done) | (rw [rpt_of hr3 hall (Or.inl (by omega))]; done)), (by first | (have h9 := lst_0 hr3 c_23; show gn = gn + lst q se; omega) | (have h9 := lst_0 hr3 c_54; show gn = gn + lst q se; omega) | (have h9 := lst_1 (by omega) hall c_54; show gn + 1 = gn + lst q se; omega) | exact absurd c_54 c_23)⟩ dX3_pass_67
          · refine lv_aload_n hx hb dX3_pass_57 rfl (lv_at hl 2 rfl) ?_
            refine lv_dup hx hb dX3_pass_58 rfl ?_
            refine va_get (v := .int (nI gn)) hx hb hts hi_3 hown hK hP 0 rfl rfl 3 (by decide) f_21 (fun _ h => h) rfl dX3_pass_59 ?_
            refine lv_iconst (v := nI 1) hx hb dX3_pass_62 ci_1 ?_
            refine z_iadd hx hb dX3_pass_63 ?_
            refine z_put hx hb hts hi_3 tyX3 tyX3_ok nmX3 hown hK hP hD rfl hS 0 rfl rfl 3 (by decide) f_21 (fun _ h => h) rfl (by decide +kernel) (Nat.le_of_ble_eq_true rfl) dX3_pass_64 (fun H locs hP hS => ?_)
            have hP : va_P D vwCl [(q0, .inr (3, [.int (nI (se + 1 + r)), .int (nI gf), .int (nI (ak + r)), .int (nI (gn + 1))]))] H := hP
            exact mu_vret hA hQ hx hb hr hlocks (se + 1 + r, gf, ak + r, gn + 1) hP hS ⟨rfl, (by show se + 1 + r = se + 1 + rpt q se; first | (rw [rpt_of hr3 hall (Or.inr c_23)]; done) | (rw [rpt_of hr3 hall (Or.inl (by omega))]; done)), (by first | (have h9 : gst q se = 1 := zif_t c_7; show gf + 1 = gf + gst q se; omega) | (have h9 : gst q se = 0 := zif_f c_7; show gf = gf + gst q se; omega)), (by show ak + r = ak + rpt q se; first | (rw [rpt_of hr3 hall (Or.inr c_23)]; done) | (rw [rpt_of hr3 hall (Or.inl (by omega))]; done)), (by first | (have h9 := lst_0 hr3 c_23; show gn = gn + lst q se; omega) | (have h9 := lst_0 hr3 c_54; show gn = gn + lst q se; omega) | (have h9 := lst_1 (by omega) hall c_54; show gn + 1 = gn + lst q se; omega) | exact absurd c_54 c_23)⟩ dX3_pass_67
        · refine lv_iload_n hx hb dX3_pass_26 rfl (lv_at hl 0 rfl) ?_
          refine lv_iconst (v := nI 3) hx hb dX3_pass_27 ci_3 ?_
          refine z_icmp_ge (tgt := 43) hx hb dX3_pass_28 (by decide) (by omega) (by omega) (fun c_28 => ?_) (fun c_28 => ?_)
          · refine lv_aload_n hx hb dX3_pass_43 rfl (lv_at hl 2 rfl) ?_
            refine lv_dup hx hb dX3_pass_44 rfl ?_
            refine va_get (v := .int (nI ak)) hx hb hts hi_3 hown hK hP 0 rfl rfl 2 (by decide) f_18 (fun _ h => h) rfl dX3_pass_45 ?_
            refine lv_iload_n hx hb dX3_pass_48 rfl (lv_at hl 0 rfl) ?_
            refine z_iadd hx hb dX3_pass_49 ?_
            refine z_put hx hb hts hi_3 tyX3 tyX3_ok nmX3 hown hK hP hD rfl hS 0 rfl rfl 2 (by decide) f_18 (fun _ h => h) rfl (by decide +kernel) (Nat.le_of_ble_eq_true rfl) dX3_pass_50 (fun H locs hP hS => ?_)
            have hP : va_P D vwCl [(q0, .inr (3, [.int (nI (se + 1 + r)), .int (nI gf), .int (nI (ak + r)), .int (nI gn)]))] H := hP
            refine lv_iload_n hx hb dX3_pass_53 rfl (lv_at hl 1 rfl) ?_
            refine z_if_eqP (tgt := 67) hx hb dX3_pass_54 (by decide) (fun c_54 => ?_) (fun c_54 => ?_)
            · exact mu_vret hA hQ hx hb hr hlocks (se + 1 + r, gf, ak + r, gn) hP hS ⟨rfl, (by show se + 1 + r = se + 1 + rpt q se; first | (rw [rpt_of hr3 hall (Or.inr c_23)]; done) | (rw [rpt_of hr3 hall (Or.inl (by omega))]; done)), (by first | (have h9 : gst q se = 1 := zif_t c_7; show gf + 1 = gf + gst q se; omega) | (have h9 : gst q se = 0 := zif_f c_7; show gf = gf + gst q se; omega)), (by show ak + r = ak + rpt q se; first | (rw [rpt_of hr3 hall (Or.inr c_23)]; done) | (rw [rpt_of hr3 hall (Or.inl (by omega))]; done)), (by first | (have h9 := lst_0 hr3 c_23; show gn = gn + lst q se; omega) | (have h9 := lst_0 hr3 c_54; show gn = gn + lst q se; omega) | (have h9 := lst_1 (by omega) hall c_54; show gn + 1 = gn + lst q se; omega) | exact absurd c_54 c_23)⟩ dX3_pass_67
            · refine lv_aload_n hx hb dX3_pass_57 rfl (lv_at hl 2 rfl) ?_
              refine lv_dup hx hb dX3_pass_58 rfl ?_
              refine va_get (v := .int (nI gn)) hx hb hts hi_3 hown hK hP 0 rfl rfl 3 (by decide) f_21 (fun _ h => h) rfl dX3_pass_59 ?_
              refine lv_iconst (v := nI 1) hx hb dX3_pass_62 ci_1 ?_
              refine z_iadd hx hb dX3_pass_63 ?_
              refine z_put hx hb hts hi_3 tyX3 tyX3_ok nmX3 hown hK hP hD rfl hS 0 rfl rfl 3 (by decide) f_21 (fun _ h => h) rfl (by decide +kernel) (Nat.le_of_ble_eq_true rfl) dX3_pass_64 (fun H locs hP hS => ?_)
              have hP : va_P D vwCl [(q0, .inr (3, [.int (nI (se + 1 + r)), .int (nI gf), .int (nI (ak + r)), .int (nI (gn + 1))]))] H := hP
              exact mu_vret hA hQ hx hb hr hlocks (se + 1 + r, gf, ak + r, gn + 1) hP hS ⟨rfl, (by show se + 1 + r = se + 1 + rpt q se; first | (rw [rpt_of hr3 hall (Or.inr c_23)]; done) | (rw [rpt_of hr3 hall (Or.inl (by omega))]; done)), (by first | (have h9 : gst q se = 1 := zif_t c_7; show gf + 1 = gf + gst q se; omega) | (have h9 : gst q se = 0 := zif_f c_7; show gf = gf + gst q se; omega)), (by show ak + r = ak + rpt q se; first | (rw [rpt_of hr3 hall (Or.inr c_23)]; done) | (rw [rpt_of hr3 hall (Or.inl (by omega))]; done)), (by first | (have h9 := lst_0 hr3 c_23; show gn = gn + lst q se; omega) | (have h9 := lst_0 hr3 c_54; show gn = gn + lst q se; omega) | (have h9 := lst_1 (by omega) hall c_54; show gn + 1 = gn + lst q se; omega) | exact absurd c_54 c_23)⟩ dX3_pass_67
          · refine lv_iinc (v := nI (r + 1)) (lv' := [(3, .int (nI (r + 1))), (2, .int (z1 (gB q (se + 1 + r)))), (0, .ref q0), (1, .int (nI q))]) hx hb dX3_pass_31 hl (k := 0) rfl (z_inc1 _) (by decide) rfl (fun ls hl => ?_)
            refine lv_aload_n hx hb dX3_pass_34 rfl (lv_at hl 2 rfl) ?_
            refine lv_iload_n hx hb dX3_pass_35 rfl (lv_at hl 3 rfl) ?_
            refine z_muV (As := [.int (nI q)]) (rest := []) ⟨hx, hb, hml, hown, hts⟩ (c_X3_isNextGarbled l D cI q0 (se + 1 + r) gf ak gn q (by omega) (by first | assumption | omega)) (cwV 1 hts gX3_pass_X3_isNextGarbled rfl rfl rfl hd_X3_isNextGarbled ⟨Nat.le_of_ble_eq_true rfl, Nat.le_of_ble_eq_true rfl⟩) ⟨hK, hE⟩ hP hD rfl hS [0] (by decide) rfl (fun _ => rfl) (va_recv hK hP (ci := 3) (q0 := 0) rfl rfl) rfl hl.1 rfl (Nat.le_of_ble_eq_true rfl) dX3_pass_36 (Nat.zero_le _) (Nat.zero_le _) (fun v9 u9 H locs hp hP hS => ?_)
            obtain rfl := hp
            have hP : va_P D vwCl [(q0, .inr (3, [.int (nI ((se + 1 + r) + 1)), .int (nI gf), .int (nI ak), .int (nI gn)]))] H := hP
            refine W.eq (g2 := F0 mi 39 ls [.int (z1 (gB q ((se + 1 + r) + 1)))]) rfl ?_
            refine lv_istore_n (lv' := [(2, .int (z1 (gB q ((se + 1 + r) + 1)))), (3, .int (nI (r + 1))), (0, .ref q0), (1, .int (nI q))]) hx hb dX3_pass_39 rfl hl (by decide) rfl (fun ls hl => ?_)
            refine lv_goto (tgt := 22) hx hb dX3_pass_40 (by decide) ?_
            exact ih_22 (r + 1) (by omega) (lt_s hall c_23) (by omega) H locs ls hP hS (lv_sub hl [1, 0, 2, 3] rfl)
    exact lp_22 ((3 - 0) + 1) 0 (Nat.zero_le _) (fun _ h => absurd h (Nat.not_lt_zero _)) (Nat.lt_succ_self _) H locs ls hP hS hl
  · refine lv_aload_n hx hb dX3_pass_10 rfl (lv_at hl 1 rfl) ?_
    refine lv_dup hx hb dX3_pass_11 rfl ?_
    refine va_get (v := .int (nI gf)) hx hb hts hi_3 hown hK hP 0 rfl rfl 1 (by decide) f_15 (fun _ h => h) rfl dX3_pass_12 ?_
    refine lv_iconst (v := nI 1) hx hb dX3_pass_15 ci_1 ?_
    refine z_iadd hx hb dX3_pass_16 ?_
    refine z_put hx hb hts hi_3 tyX3 tyX3_ok nmX3 hown hK hP hD rfl hS 0 rfl rfl 1 (by decide) f_15 (fun _ h => h) rfl (by decide +kernel) (Nat.le_of_ble_eq_true rfl) dX3_pass_17 (fun H locs hP hS => ?_)
    have hP : va_P D vwCl [(q0, .inr (3, [.int (nI (se + 1)), .int (nI (gf + 1)), .int (nI ak), .int (nI gn)]))] H := hP
    refine lv_iconst (v := nI 0) hx hb dX3_pass_20 ci_0 ?_
    refine lv_istore_n (lv' := [(3, .int (nI 0)), (2, .int (z1 (gB q (se + 1)))), (0, .ref q0), (1, .int (nI q))]) hx hb dX3_pass_21 rfl hl (by decide) rfl (fun ls hl => ?_)
    have lp_22 : ∀ (Nf : Nat) (r : Nat) (hr3 : r ≤ 3) (hall : ∀ j, j < r → gB q (se + 1 + j)) (hN : 3 - r < Nf) (H : Heap) (locs : List Loc) (ls : Array Slot), va_P D vwCl [(q0, .inr (3, [.int (nI (se + 1 + r)), .int (nI (gf + 1)), .int (nI ak), .int (nI gn)]))] H → va_S A sv.heap H locs → lv_has ls 4 [(3, .int (nI r)), (2, .int (z1 (gB q (se + 1 + r)))), (0, .ref q0), (1, .int (nI q))] → W pg l ev rm_X3_pass sv mi ag bl mt cd H locs 0 0 Q (F0 mi 22 ls []) := by
      intro Nf
      induction Nf with
      | zero =>
        intro r hr3 hall hN
        exact absurd hN (Nat.not_lt_zero _)
      | succ Nf ih_22 =>
        intro r hr3 hall hN H locs ls hP hS hl
        refine lv_iload_n hx hb dX3_pass_22 rfl (lv_at hl 1 rfl) ?_
        refine z_if_eqP (tgt := 43) hx hb dX3_pass_23 (by decide) (fun c_23 => ?_) (fun c_23 => ?_)
        · refine lv_aload_n hx hb dX3_pass_43 rfl (lv_at hl 2 rfl) ?_
          refine lv_dup hx hb dX3_pass_44 rfl ?_
          refine va_get (v := .int (nI ak)) hx hb hts hi_3 hown hK hP 0 rfl rfl 2 (by decide) f_18 (fun _ h => h) rfl dX3_pass_45 ?_
          refine lv_iload_n hx hb dX3_pass_48 rfl (lv_at hl 0 rfl) ?_
          refine z_iadd hx hb dX3_pass_49 ?_
          refine z_put hx hb hts hi_3 tyX3 tyX3_ok nmX3 hown hK hP hD rfl hS 0 rfl rfl 2 (by decide) f_18 (fun _ h => h) rfl (by decide +kernel) (Nat.le_of_ble_eq_true rfl) dX3_pass_50 (fun H locs hP hS => ?_)
          have hP : va_P D vwCl [(q0, .inr (3, [.int (nI (se + 1 + r)), .int (nI (gf + 1)), .int (nI (ak + r)), .int (nI gn)]))] H := hP
          refine lv_iload_n hx hb dX3_pass_53 rfl (lv_at hl 1 rfl) ?_
          refine z_if_eqP (tgt := 67) hx hb dX3_pass_54 (by decide) (fun c_54 => ?_) (fun c_54 => ?_)
          · exact mu_vret hA hQ hx hb hr hlocks (se + 1 + r, gf + 1, ak + r, gn) hP hS ⟨rfl, (by show se + 1 + r = se + 1 + rpt q se; first | (rw [rpt_of hr3 hall (Or.inr c_23)]; done) | (rw [rpt_of hr3 hall (Or.inl (by omega))]; done)), (by first | (have h9 : gst q se = 1 := zif_t c_7; show gf + 1 = gf + gst q se; omega) | (have h9 : gst q se = 0 := zif_f c_7; show gf = gf + gst q se; omega)), (by show ak + r = ak + rpt q se; first | (rw [rpt_of hr3 hall (Or.inr c_23)]; done) | (rw [rpt_of hr3 hall (Or.inl (by omega))]; done)), (by first | (have h9 := lst_0 hr3 c_23; show gn = gn + lst q se; omega) | (have h9 := lst_0 hr3 c_54; show gn = gn + lst q se; omega) | (have h9 := lst_1 (by omega) hall c_54; show gn + 1 = gn + lst q se; omega) | exact absurd c_54 c_23)⟩ dX3_pass_67
          · refine lv_aload_n hx hb dX3_pass_57 rfl (lv_at hl 2 rfl) ?_
            refine lv_dup hx hb dX3_pass_58 rfl ?_
            refine va_get (v := .int (nI gn)) hx hb hts hi_3 hown hK hP 0 rfl rfl 3 (by decide) f_21 (fun _ h => h) rfl dX3_pass_59 ?_
            refine lv_iconst (v := nI 1) hx hb dX3_pass_62 ci_1 ?_
            refine z_iadd hx hb dX3_pass_63 ?_
            refine z_put hx hb hts hi_3 tyX3 tyX3_ok nmX3 hown hK hP hD rfl hS 0 rfl rfl 3 (by decide) f_21 (fun _ h => h) rfl (by decide +kernel) (Nat.le_of_ble_eq_true rfl) dX3_pass_64 (fun H locs hP hS => ?_)
            have hP : va_P D vwCl [(q0, .inr (3, [.int (nI (se + 1 + r)), .int (nI (gf + 1)), .int (nI (ak + r)), .int (nI (gn + 1))]))] H := hP
            exact mu_vret hA hQ hx hb hr hlocks (se + 1 + r, gf + 1, ak + r, gn + 1) hP hS ⟨rfl, (by show se + 1 + r = se + 1 + rpt q se; first | (rw [rpt_of hr3 hall (Or.inr c_23)]; done) | (rw [rpt_of hr3 hall (Or.inl (by omega))]; done)), (by first | (have h9 : gst q se = 1 := zif_t c_7; show gf + 1 = gf + gst q se; omega) | (have h9 : gst q se = 0 := zif_f c_7; show gf = gf + gst q se; omega)), (by show ak + r = ak + rpt q se; first | (rw [rpt_of hr3 hall (Or.inr c_23)]; done) | (rw [rpt_of hr3 hall (Or.inl (by omega))]; done)), (by first | (have h9 := lst_0 hr3 c_23; show gn = gn + lst q se; omega) | (have h9 := lst_0 hr3 c_54; show gn = gn + lst q se; omega) | (have h9 := lst_1 (by omega) hall c_54; show gn + 1 = gn + lst q se; omega) | exact absurd c_54 c_23)⟩ dX3_pass_67
        · refine lv_iload_n hx hb dX3_pass_26 rfl (lv_at hl 0 rfl) ?_
          refine lv_iconst (v := nI 3) hx hb dX3_pass_27 ci_3 ?_
          refine z_icmp_ge (tgt := 43) hx hb dX3_pass_28 (by decide) (by omega) (by omega) (fun c_28 => ?_) (fun c_28 => ?_)
          · refine lv_aload_n hx hb dX3_pass_43 rfl (lv_at hl 2 rfl) ?_
            refine lv_dup hx hb dX3_pass_44 rfl ?_
            refine va_get (v := .int (nI ak)) hx hb hts hi_3 hown hK hP 0 rfl rfl 2 (by decide) f_18 (fun _ h => h) rfl dX3_pass_45 ?_
            refine lv_iload_n hx hb dX3_pass_48 rfl (lv_at hl 0 rfl) ?_
            refine z_iadd hx hb dX3_pass_49 ?_
            refine z_put hx hb hts hi_3 tyX3 tyX3_ok nmX3 hown hK hP hD rfl hS 0 rfl rfl 2 (by decide) f_18 (fun _ h => h) rfl (by decide +kernel) (Nat.le_of_ble_eq_true rfl) dX3_pass_50 (fun H locs hP hS => ?_)
            have hP : va_P D vwCl [(q0, .inr (3, [.int (nI (se + 1 + r)), .int (nI (gf + 1)), .int (nI (ak + r)), .int (nI gn)]))] H := hP
            refine lv_iload_n hx hb dX3_pass_53 rfl (lv_at hl 1 rfl) ?_
            refine z_if_eqP (tgt := 67) hx hb dX3_pass_54 (by decide) (fun c_54 => ?_) (fun c_54 => ?_)
            · exact mu_vret hA hQ hx hb hr hlocks (se + 1 + r, gf + 1, ak + r, gn) hP hS ⟨rfl, (by show se + 1 + r = se + 1 + rpt q se; first | (rw [rpt_of hr3 hall (Or.inr c_23)]; done) | (rw [rpt_of hr3 hall (Or.inl (by omega))]; done)), (by first | (have h9 : gst q se = 1 := zif_t c_7; show gf + 1 = gf + gst q se; omega) | (have h9 : gst q se = 0 := zif_f c_7; show gf = gf + gst q se; omega)), (by show ak + r = ak + rpt q se; first | (rw [rpt_of hr3 hall (Or.inr c_23)]; done) | (rw [rpt_of hr3 hall (Or.inl (by omega))]; done)), (by first | (have h9 := lst_0 hr3 c_23; show gn = gn + lst q se; omega) | (have h9 := lst_0 hr3 c_54; show gn = gn + lst q se; omega) | (have h9 := lst_1 (by omega) hall c_54; show gn + 1 = gn + lst q se; omega) | exact absurd c_54 c_23)⟩ dX3_pass_67
            · refine lv_aload_n hx hb dX3_pass_57 rfl (lv_at hl 2 rfl) ?_
              refine lv_dup hx hb dX3_pass_58 rfl ?_
              refine va_get (v := .int (nI gn)) hx hb hts hi_3 hown hK hP 0 rfl rfl 3 (by decide) f_21 (fun _ h => h) rfl dX3_pass_59 ?_
              refine lv_iconst (v := nI 1) hx hb dX3_pass_62 ci_1 ?_
              refine z_iadd hx hb dX3_pass_63 ?_
              refine z_put hx hb hts hi_3 tyX3 tyX3_ok nmX3 hown hK hP hD rfl hS 0 rfl rfl 3 (by decide) f_21 (fun _ h => h) rfl (by decide +kernel) (Nat.le_of_ble_eq_true rfl) dX3_pass_64 (fun H locs hP hS => ?_)
              have hP : va_P D vwCl [(q0, .inr (3, [.int (nI (se + 1 + r)), .int (nI (gf + 1)), .int (nI (ak + r)), .int (nI (gn + 1))]))] H := hP
              exact mu_vret hA hQ hx hb hr hlocks (se + 1 + r, gf + 1, ak + r, gn + 1) hP hS ⟨rfl, (by show se + 1 + r = se + 1 + rpt q se; first | (rw [rpt_of hr3 hall (Or.inr c_23)]; done) | (rw [rpt_of hr3 hall (Or.inl (by omega))]; done)), (by first | (have h9 : gst q se = 1 := zif_t c_7; show gf + 1 = gf + gst q se; omega) | (have h9 : gst q se = 0 := zif_f c_7; show gf = gf + gst q se; omega)), (by show ak + r = ak + rpt q se; first | (rw [rpt_of hr3 hall (Or.inr c_23)]; done) | (rw [rpt_of hr3 hall (Or.inl (by omega))]; done)), (by first | (have h9 := lst_0 hr3 c_23; show gn = gn + lst q se; omega) | (have h9 := lst_0 hr3 c_54; show gn = gn + lst q se; omega) | (have h9 := lst_1 (by omega) hall c_54; show gn + 1 = gn + lst q se; omega) | exact absurd c_54 c_23)⟩ dX3_pass_67
          · refine lv_iinc (v := nI (r + 1)) (lv' := [(3, .int (nI (r + 1))), (2, .int (z1 (gB q (se + 1 + r)))), (0, .ref q0), (1, .int (nI q))]) hx hb dX3_pass_31 hl (k := 0) rfl (z_inc1 _) (by decide) rfl (fun ls hl => ?_)
            refine lv_aload_n hx hb dX3_pass_34 rfl (lv_at hl 2 rfl) ?_
            refine lv_iload_n hx hb dX3_pass_35 rfl (lv_at hl 3 rfl) ?_
            refine z_muV (As := [.int (nI q)]) (rest := []) ⟨hx, hb, hml, hown, hts⟩ (c_X3_isNextGarbled l D cI q0 (se + 1 + r) (gf + 1) ak gn q (by omega) (by first | assumption | omega)) (cwV 1 hts gX3_pass_X3_isNextGarbled rfl rfl rfl hd_X3_isNextGarbled ⟨Nat.le_of_ble_eq_true rfl, Nat.le_of_ble_eq_true rfl⟩) ⟨hK, hE⟩ hP hD rfl hS [0] (by decide) rfl (fun _ => rfl) (va_recv hK hP (ci := 3) (q0 := 0) rfl rfl) rfl hl.1 rfl (Nat.le_of_ble_eq_true rfl) dX3_pass_36 (Nat.zero_le _) (Nat.zero_le _) (fun v9 u9 H locs hp hP hS => ?_)
            obtain rfl := hp
            have hP : va_P D vwCl [(q0, .inr (3, [.int (nI ((se + 1 + r) + 1)), .int (nI (gf + 1)), .int (nI ak), .int (nI gn)]))] H := hP
            refine W.eq (g2 := F0 mi 39 ls [.int (z1 (gB q ((se + 1 + r) + 1)))]) rfl ?_
            refine lv_istore_n (lv' := [(2, .int (z1 (gB q ((se + 1 + r) + 1)))), (3, .int (nI (r + 1))), (0, .ref q0), (1, .int (nI q))]) hx hb dX3_pass_39 rfl hl (by decide) rfl (fun ls hl => ?_)
            refine lv_goto (tgt := 22) hx hb dX3_pass_40 (by decide) ?_
            exact ih_22 (r + 1) (by omega) (lt_s hall c_23) (by omega) H locs ls hP hS (lv_sub hl [1, 0, 2, 3] rfl)
    exact lp_22 ((3 - 0) + 1) 0 (Nat.zero_le _) (fun _ h => absurd h (Nat.not_lt_zero _)) (Nat.lt_succ_self _) H locs ls hP hS hl
set_option maxHeartbeats 4000000 in
set_option maxRecDepth 100000 in
theorem c_X3_run (l : Launch) (D : va_G) (cI : ClassId) (q0 : Nat) (se : Nat) (gf : Nat) (ak : Nat) (gn : Nat) (g : Nat) (s0 : Nat) (q : Nat) (hg : g ≤ 24) (hs0 : s0 ≤ 80000) (hq : q ≤ 9) : MU l yX3_run wsX3_run rm_X3_run D cI [(q0, .inr (3, [.int (nI se), .int (nI gf), .int (nI ak), .int (nI gn)]))] [.ref q0, .int (nI g), .int (nI s0), .int (nI q)] (fun (v9 : Option Value) (u9 : Unit) => v9 = none) (fun (u9 : Unit) => [(q0, .inr (3, [.int (nI (seN q s0 g)), .int (nI (gfN q s0 g)), .int (nI (akN q s0 g)), .int (nI (gnN q s0 g))]))]) := by
  refine mu_of (C := RX3) (cc := cX3_run) (maxL := 5) (ret := none) rfl (by decide) rfl (Nat.le_of_ble_eq_true rfl) ?_
  intro pg ev sv mi ag bl mt cd ls Q A hA hQ hx hb hr hlocks hml hts hown hK hE hD H locs hP hS hl
  have hD : zDD A [q0] := hD
  have hl : lv_has ls 5 [(0, .ref q0), (1, .int (nI g)), (2, .int (nI s0)), (3, .int (nI q))] := hl
  have f_9 := hts (.fieldLink RX3 9 "TelegraphDesk$Passage" "sent" "I") (by decide +kernel)
  have f_15 := hts (.fieldLink RX3 15 "TelegraphDesk$Passage" "garbledFirst" "I") (by decide +kernel)
  have f_18 := hts (.fieldLink RX3 18 "TelegraphDesk$Passage" "asked" "I") (by decide +kernel)
  have f_21 := hts (.fieldLink RX3 21 "TelegraphDesk$Passage" "gone" "I") (by decide +kernel)
  have hi_3 : ∀ w ∈ wsX30, w ∈ wsX3_run := by decide +kernel
  refine lv_aload_n hx hb dX3_run_0 rfl (lv_at hl 0 rfl) ?_
  refine lv_iload_n hx hb dX3_run_1 rfl (lv_at hl 2 rfl) ?_
  refine z_put hx hb hts hi_3 tyX3 tyX3_ok nmX3 hown hK hP hD rfl hS 0 rfl rfl 0 (by decide) f_9 (fun _ h => h) rfl (by decide +kernel) (Nat.le_of_ble_eq_true rfl) dX3_run_2 (fun H locs hP hS => ?_)
  have hP : va_P D vwCl [(q0, .inr (3, [.int (nI s0), .int (nI gf), .int (nI ak), .int (nI gn)]))] H := hP
  refine lv_aload_n hx hb dX3_run_5 rfl (lv_at hl 0 rfl) ?_
  refine lv_iconst (v := nI 0) hx hb dX3_run_6 ci_0 ?_
  refine z_put hx hb hts hi_3 tyX3 tyX3_ok nmX3 hown hK hP hD rfl hS 0 rfl rfl 1 (by decide) f_15 (fun _ h => h) rfl (by decide +kernel) (Nat.le_of_ble_eq_true rfl) dX3_run_7 (fun H locs hP hS => ?_)
  have hP : va_P D vwCl [(q0, .inr (3, [.int (nI s0), .int (nI 0), .int (nI ak), .int (nI gn)]))] H := hP
  refine lv_aload_n hx hb dX3_run_10 rfl (lv_at hl 0 rfl) ?_
  refine lv_iconst (v := nI 0) hx hb dX3_run_11 ci_0 ?_
  refine z_put hx hb hts hi_3 tyX3 tyX3_ok nmX3 hown hK hP hD rfl hS 0 rfl rfl 2 (by decide) f_18 (fun _ h => h) rfl (by decide +kernel) (Nat.le_of_ble_eq_true rfl) dX3_run_12 (fun H locs hP hS => ?_)
  have hP : va_P D vwCl [(q0, .inr (3, [.int (nI s0), .int (nI 0), .int (nI 0), .int (nI gn)]))] H := hP
  refine lv_aload_n hx hb dX3_run_15 rfl (lv_at hl 0 rfl) ?_
  refine lv_iconst (v := nI 0) hx hb dX3_run_16 ci_0 ?_
  refine z_put hx hb hts hi_3 tyX3 tyX3_ok nmX3 hown hK hP hD rfl hS 0 rfl rfl 3 (by decide) f_21 (fun _ h => h) rfl (by decide +kernel) (Nat.le_of_ble_eq_true rfl) dX3_run_17 (fun H locs hP hS => ?_)
  have hP : va_P D vwCl [(q0, .inr (3, [.int (nI s0), .int (nI 0), .int (nI 0), .int (nI 0)]))] H := hP
  refine lv_iconst (v := nI 0) hx hb dX3_run_20 ci_0 ?_
  refine lv_istore (lv' := [(4, .int (nI 0)), (0, .ref q0), (1, .int (nI g)), (2, .int (nI s0)), (3, .int (nI q))]) hx hb dX3_run_21 hl (by decide) rfl (fun ls hl => ?_)
  have lp_23 : ∀ (Nf : Nat) (i : Nat) (hi : i ≤ g) (hN : g - i < Nf) (H : Heap) (locs : List Loc) (ls : Array Slot), va_P D vwCl [(q0, .inr (3, [.int (nI (seN q s0 i)), .int (nI (gfN q s0 i)), .int (nI (akN q s0 i)), .int (nI (gnN q s0 i))]))] H → va_S A sv.heap H locs → lv_has ls 5 [(4, .int (nI i)), (0, .ref q0), (1, .int (nI g)), (2, .int (nI s0)), (3, .int (nI q))] → W pg l ev rm_X3_run sv mi ag bl mt cd H locs 0 0 Q (F0 mi 23 ls []) := by
    intro Nf
    induction Nf with
    | zero =>
      intro i hi hN
      exact absurd hN (Nat.not_lt_zero _)
    | succ Nf ih_23 =>
      intro i hi hN H locs ls hP hS hl
      refine lv_iload hx hb dX3_run_23 (lv_at hl 0 rfl) ?_
      refine lv_iload_n hx hb dX3_run_25 rfl (lv_at hl 2 rfl) ?_
      refine z_icmp_ge (tgt := 40) hx hb dX3_run_26 (by decide) (by omega) (by omega) (fun c_26 => ?_) (fun c_26 => ?_)
      · obtain hig : i = g := by omega
        rw [hig] at hP
        exact mu_vret hA hQ hx hb hr hlocks () hP hS rfl dX3_run_40
      · have hsl := seN_le q s0 i
        refine lv_aload_n hx hb dX3_run_29 rfl (lv_at hl 1 rfl) ?_
        refine lv_iload_n hx hb dX3_run_30 rfl (lv_at hl 4 rfl) ?_
        refine z_muV (As := [.int (nI q)]) (rest := []) ⟨hx, hb, hml, hown, hts⟩ (c_X3_pass l D cI q0 (seN q s0 i) (gfN q s0 i) (akN q s0 i) (gnN q s0 i) q (by omega) (by first | assumption | omega)) (cwV 1 hts gX3_run_X3_pass rfl rfl rfl hd_X3_pass ⟨Nat.le_of_ble_eq_true rfl, Nat.le_of_ble_eq_true rfl⟩) ⟨hK, hE⟩ hP hD rfl hS [0] (by decide) rfl (fun _ => rfl) (va_recv hK hP (ci := 3) (q0 := 0) rfl rfl) rfl hl.1 rfl (Nat.le_of_ble_eq_true rfl) dX3_run_31 (Nat.zero_le _) (Nat.zero_le _) (fun v9 u9 H locs hp hP hS => ?_)
        obtain ⟨se2_31, gf2_31, ak2_31, gn2_31⟩ := u9
        obtain ⟨rfl, d_se2_31, d_gf2_31, d_ak2_31, d_gn2_31⟩ := hp
        try dsimp only at d_se2_31 d_gf2_31 d_ak2_31 d_gn2_31
        subst d_se2_31
        subst d_gf2_31
        subst d_ak2_31
        subst d_gn2_31
        have hP : va_P D vwCl [(q0, .inr (3, [.int (nI ((seN q s0 i) + 1 + rpt q (seN q s0 i))), .int (nI ((gfN q s0 i) + gst q (seN q s0 i))), .int (nI ((akN q s0 i) + rpt q (seN q s0 i))), .int (nI ((gnN q s0 i) + lst q (seN q s0 i)))]))] H := hP
        refine W.eq (g2 := F0 mi 34 ls []) rfl ?_
        refine lv_iinc (v := nI (i + 1)) (lv' := [(4, .int (nI (i + 1))), (0, .ref q0), (1, .int (nI g)), (2, .int (nI s0)), (3, .int (nI q))]) hx hb dX3_run_34 hl (k := 0) rfl (z_inc1 _) (by decide) rfl (fun ls hl => ?_)
        refine lv_goto (tgt := 23) hx hb dX3_run_37 (by decide) ?_
        exact ih_23 (i + 1) (by omega) (by omega) H locs ls hP hS (lv_sub hl [0, 1, 2, 3, 4] rfl)
  exact lp_23 ((g - 0) + 1) 0 (Nat.zero_le _) (Nat.lt_succ_self _) H locs ls hP hS hl
