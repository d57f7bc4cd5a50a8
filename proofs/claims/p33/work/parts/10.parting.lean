theorem hd_X2_size : yX2_size.cls = RX2 ∧ yX2_size.cls ≠ "java/lang/invoke/MethodHandle" ∧ yX2_size.cls ≠ "java/lang/invoke/VarHandle" ∧ (parseMethodDescriptor yX2_size.desc).map (fun d => d.parameters.length) = some 0 := by decide +kernel
theorem hd_X2_has : yX2_has.cls = RX2 ∧ yX2_has.cls ≠ "java/lang/invoke/MethodHandle" ∧ yX2_has.cls ≠ "java/lang/invoke/VarHandle" ∧ (parseMethodDescriptor yX2_has.desc).map (fun d => d.parameters.length) = some 1 := by decide +kernel
theorem hd_X2_startAt : yX2_startAt.cls = RX2 ∧ yX2_startAt.cls ≠ "java/lang/invoke/MethodHandle" ∧ yX2_startAt.cls ≠ "java/lang/invoke/VarHandle" ∧ (parseMethodDescriptor yX2_startAt.desc).map (fun d => d.parameters.length) = some 1 := by decide +kernel
theorem hd_X2_codeAt : yX2_codeAt.cls = RX2 ∧ yX2_codeAt.cls ≠ "java/lang/invoke/MethodHandle" ∧ yX2_codeAt.cls ≠ "java/lang/invoke/VarHandle" ∧ (parseMethodDescriptor yX2_codeAt.desc).map (fun d => d.parameters.length) = some 1 := by decide +kernel
theorem hd_X2_groupsWith : yX2_groupsWith.cls = RX2 ∧ yX2_groupsWith.cls ≠ "java/lang/invoke/MethodHandle" ∧ yX2_groupsWith.cls ≠ "java/lang/invoke/VarHandle" ∧ (parseMethodDescriptor yX2_groupsWith.desc).map (fun d => d.parameters.length) = some 1 := by decide +kernel
theorem hd_X2_takeWord : yX2_takeWord.cls = RX2 ∧ yX2_takeWord.cls ≠ "java/lang/invoke/MethodHandle" ∧ yX2_takeWord.cls ≠ "java/lang/invoke/VarHandle" ∧ (parseMethodDescriptor yX2_takeWord.desc).map (fun d => d.parameters.length) = some 1 := by decide +kernel
theorem hd_X2_takeIfBetter : yX2_takeIfBetter.cls = RX2 ∧ yX2_takeIfBetter.cls ≠ "java/lang/invoke/MethodHandle" ∧ yX2_takeIfBetter.cls ≠ "java/lang/invoke/VarHandle" ∧ (parseMethodDescriptor yX2_takeIfBetter.desc).map (fun d => d.parameters.length) = some 3 := by decide +kernel
theorem hd_X2_listStarts : yX2_listStarts.cls = RX2 ∧ yX2_listStarts.cls ≠ "java/lang/invoke/MethodHandle" ∧ yX2_listStarts.cls ≠ "java/lang/invoke/VarHandle" ∧ (parseMethodDescriptor yX2_listStarts.desc).map (fun d => d.parameters.length) = some 1 := by decide +kernel
theorem hd_X2_part : yX2_part.cls = RX2 ∧ yX2_part.cls ≠ "java/lang/invoke/MethodHandle" ∧ yX2_part.cls ≠ "java/lang/invoke/VarHandle" ∧ (parseMethodDescriptor yX2_part.desc).map (fun d => d.parameters.length) = some 5 := by decide +kernel
theorem hd_X2_partAsIs : yX2_partAsIs.cls = RX2 ∧ yX2_partAsIs.cls ≠ "java/lang/invoke/MethodHandle" ∧ yX2_partAsIs.cls ≠ "java/lang/invoke/VarHandle" ∧ (parseMethodDescriptor yX2_partAsIs.desc).map (fun d => d.parameters.length) = some 2 := by decide +kernel
abbrev rm_X2_size : Room := { frames := 0, cells := 0, slots := 0, locals := 0 }
abbrev rm_X2_has : Room := { frames := 0, cells := 0, slots := 0, locals := 0 }
abbrev rm_X2_startAt : Room := { frames := 1, cells := 0, slots := 0, locals := 21 }
abbrev rm_X2_codeAt : Room := { frames := 2, cells := 0, slots := 0, locals := 42 }
abbrev rm_X2_groupsWith : Room := { frames := 3, cells := 0, slots := 0, locals := 64 }
abbrev rm_X2_takeWord : Room := { frames := 0, cells := 0, slots := 0, locals := 0 }
abbrev rm_X2_takeIfBetter : Room := { frames := 0, cells := 0, slots := 0, locals := 0 }
abbrev rm_X2_listStarts : Room := { frames := 0, cells := 0, slots := 0, locals := 0 }
abbrev rm_X2_part : Room := { frames := 3, cells := 0, slots := 0, locals := 68 }
abbrev rm_X2_partAsIs : Room := { frames := 4, cells := 0, slots := 0, locals := 96 }
set_option maxHeartbeats 4000000 in
set_option maxRecDepth 100000 in
theorem c_X2_size (l : Launch) (D : va_G) (cI : ClassId) (p0 : Nat) (p1 : Nat) (p2 : Nat) (p3 : Nat) (p4 : Nat) (cnt : Nat) : RO l yX2_size wsX2_size rm_X2_size D cI [(p0, .inr (2, [.ref p1, .ref p2, .ref p3, .ref p4, .int (nI cnt)]))] [.ref p0] (.int (nI cnt)) := by
  refine ro_of (C := RX2) (cc := cX2_size) (maxL := 1) (ret := (some .int)) rfl (by decide) rfl (Nat.le_of_ble_eq_true rfl) ?_
  intro pg ev sv mi ag bl mt cd ls Q hQ hx hb hr hlocks hml hts hown hK hE hP hl
  have hP : va_P D vwCl [(p0, .inr (2, [.ref p1, .ref p2, .ref p3, .ref p4, .int (nI cnt)]))] sv.heap := hP
  have hl : lv_has ls 1 [(0, .ref p0)] := hl
  have f_24 := hts (.fieldLink RX2 24 "TelegraphDesk$Parting" "count" "I") (by decide +kernel)
  have hi_2 : ∀ w ∈ wsX20, w ∈ wsX2_size := by decide +kernel
  refine lv_aload_n hx hb dX2_size_0 rfl (lv_at hl 0 rfl) ?_
  refine va_get (v := .int (nI cnt)) hx hb hts hi_2 hown hK hP 0 rfl rfl 4 (by decide) f_24 (fun _ h => h) rfl dX2_size_1 ?_
  exact ro_iret hQ hx hb hr hlocks rfl dX2_size_4
set_option maxHeartbeats 4000000 in
set_option maxRecDepth 100000 in
theorem c_X2_has (l : Launch) (D : va_G) (cI : ClassId) (p0 : Nat) (p1 : Nat) (p2 : Nat) (p3 : Nat) (p4 : Nat) (cnt : Nat) (g : Nat) (hcnt : cnt ≤ 24) (hg : g < 2147483648) : RO l yX2_has wsX2_has rm_X2_has D cI [(p0, .inr (2, [.ref p1, .ref p2, .ref p3, .ref p4, .int (nI cnt)]))] [.ref p0, .int (nI g)] (.int (z1 (g < cnt))) := by
  refine ro_of (C := RX2) (cc := cX2_has) (maxL := 2) (ret := (some .boolean)) rfl (by decide) rfl (Nat.le_of_ble_eq_true rfl) ?_
  intro pg ev sv mi ag bl mt cd ls Q hQ hx hb hr hlocks hml hts hown hK hE hP hl
  have hP : va_P D vwCl [(p0, .inr (2, [.ref p1, .ref p2, .ref p3, .ref p4, .int (nI cnt)]))] sv.heap := hP
  have hl : lv_has ls 2 [(0, .ref p0), (1, .int (nI g))] := hl
  have f_24 := hts (.fieldLink RX2 24 "TelegraphDesk$Parting" "count" "I") (by decide +kernel)
  have hi_2 : ∀ w ∈ wsX20, w ∈ wsX2_has := by decide +kernel
  refine lv_iload_n hx hb dX2_has_0 rfl (lv_at hl 1 rfl) ?_
  refine z_if_lt (tgt := 16) hx hb dX2_has_1 (by decide) (by omega) ?_
  refine lv_iload_n hx hb dX2_has_4 rfl (lv_at hl 1 rfl) ?_
  refine lv_aload_n hx hb dX2_has_5 rfl (lv_at hl 0 rfl) ?_
  refine va_get (v := .int (nI cnt)) hx hb hts hi_2 hown hK hP 0 rfl rfl 4 (by decide) f_24 (fun _ h => h) rfl dX2_has_6 ?_
  refine z_icmp_ge (tgt := 16) hx hb dX2_has_9 (by decide) (by omega) (by omega) (fun c_9 => ?_) (fun c_9 => ?_)
  · refine lv_iconst (v := nI 0) hx hb dX2_has_16 ci_0 ?_
    exact ro_zret hQ hx hb hr hlocks (z1_0 (by omega)) dX2_has_17
  · refine lv_iconst (v := nI 1) hx hb dX2_has_12 ci_1 ?_
    refine lv_goto (tgt := 17) hx hb dX2_has_13 (by decide) ?_
    exact ro_zret hQ hx hb hr hlocks (z1_1 (by omega)) dX2_has_17
set_option maxHeartbeats 4000000 in
set_option maxRecDepth 100000 in
theorem c_X2_has_r (l : Launch) (D : va_G) (cI : ClassId) (p0 : Nat) (p1 : Nat) (p2 : Nat) (p3 : Nat) (p4 : Nat) (cnt : Nat) (x : Int32) (hcnt : cnt ≤ 24) : RO l yX2_has wsX2_has rm_X2_has D cI [(p0, .inr (2, [.ref p1, .ref p2, .ref p3, .ref p4, .int (nI cnt)]))] [.ref p0, .int x] (.int (z1 (∃ j : Nat, j < cnt ∧ x = nI j))) := by
  refine ro_of (C := RX2) (cc := cX2_has) (maxL := 2) (ret := (some .boolean)) rfl (by decide) rfl (Nat.le_of_ble_eq_true rfl) ?_
  intro pg ev sv mi ag bl mt cd ls Q hQ hx hb hr hlocks hml hts hown hK hE hP hl
  have hP : va_P D vwCl [(p0, .inr (2, [.ref p1, .ref p2, .ref p3, .ref p4, .int (nI cnt)]))] sv.heap := hP
  have hl : lv_has ls 2 [(0, .ref p0), (1, .int x)] := hl
  have f_24 := hts (.fieldLink RX2 24 "TelegraphDesk$Parting" "count" "I") (by decide +kernel)
  have hi_2 : ∀ w ∈ wsX20, w ∈ wsX2_has := by decide +kernel
  refine lv_iload_n hx hb dX2_has_0 rfl (lv_at hl 1 rfl) ?_
  refine lv_if_lt (tgt := 16) hx hb dX2_has_1 (by decide) (fun c_1 => ?_) (fun c_1 => ?_)
  · refine lv_iconst (v := nI 0) hx hb dX2_has_16 ci_0 ?_
    exact ro_zret hQ hx hb hr hlocks (z1_0 (by first | exact z_has_g (by omega) c_9 | exact z_has_n (by omega) c_1)) dX2_has_17
  · refine lv_iload_n hx hb dX2_has_4 rfl (lv_at hl 1 rfl) ?_
    refine lv_aload_n hx hb dX2_has_5 rfl (lv_at hl 0 rfl) ?_
    refine va_get (v := .int (nI cnt)) hx hb hts hi_2 hown hK hP 0 rfl rfl 4 (by decide) f_24 (fun _ h => h) rfl dX2_has_6 ?_
    refine lv_icmp_ge (tgt := 16) hx hb dX2_has_9 (by decide) (fun c_9 => ?_) (fun c_9 => ?_)
    · refine lv_iconst (v := nI 0) hx hb dX2_has_16 ci_0 ?_
      exact ro_zret hQ hx hb hr hlocks (z1_0 (by first | exact z_has_g (by omega) c_9 | exact z_has_n (by omega) c_1)) dX2_has_17
    · refine lv_iconst (v := nI 1) hx hb dX2_has_12 ci_1 ?_
      refine lv_goto (tgt := 17) hx hb dX2_has_13 (by decide) ?_
      exact ro_zret hQ hx hb hr hlocks (z1_1 (z_has_t (by omega) c_1 c_9)) dX2_has_17
set_option maxHeartbeats 4000000 in
set_option maxRecDepth 100000 in
theorem c_X2_startAt (l : Launch) (D : va_G) (cI : ClassId) (p0 : Nat) (p1 : Nat) (p2 : Nat) (p3 : Nat) (p4 : Nat) (f : Nat → Nat) (lf : Nat → Nat) (C : Nat → Int32) (ps : Nat → Nat) (cnt : Nat) (g : Nat) (hcnt : cnt ≤ 24) (hg : g < cnt) : RO l yX2_startAt wsX2_startAt rm_X2_startAt D cI [(p0, .inr (2, [.ref p1, .ref p2, .ref p3, .ref p4, .int (nI cnt)])), (p1, .inl (cI, 25, .inl (nA f))), (p2, .inl (cI, 24, .inl (nA lf))), (p3, .inl (cI, 24, .inl C)), (p4, .inl (cI, 24, .inl (nA ps)))] [.ref p0, .int (nI g)] (.int (nI (ps g))) := by
  refine ro_of (C := RX2) (cc := cX2_startAt) (maxL := 2) (ret := (some .int)) rfl (by decide) rfl (Nat.le_of_ble_eq_true rfl) ?_
  intro pg ev sv mi ag bl mt cd ls Q hQ hx hb hr hlocks hml hts hown hK hE hP hl
  have hP : va_P D vwCl [(p0, .inr (2, [.ref p1, .ref p2, .ref p3, .ref p4, .int (nI cnt)])), (p1, .inl (cI, 25, .inl (nA f))), (p2, .inl (cI, 24, .inl (nA lf))), (p3, .inl (cI, 24, .inl C)), (p4, .inl (cI, 24, .inl (nA ps)))] sv.heap := hP
  have hl : lv_has ls 2 [(0, .ref p0), (1, .int (nI g))] := hl
  have f_21 := hts (.fieldLink RX2 21 "TelegraphDesk$Parting" "starts" "[I") (by decide +kernel)
  have hi_2 : ∀ w ∈ wsX20, w ∈ wsX2_startAt := by decide +kernel
  refine lv_aload_n hx hb dX2_startAt_0 rfl (lv_at hl 0 rfl) ?_
  refine lv_iload_n hx hb dX2_startAt_1 rfl (lv_at hl 1 rfl) ?_
  refine z_roV (As := [.int (nI g)]) (rest := []) ⟨hx, hb, hml, hown, hts⟩ (c_X2_has l D cI p0 p1 p2 p3 p4 cnt g (by first | assumption | omega) (by first | assumption | omega)) (cwV 1 hts gX2_startAt_X2_has rfl rfl rfl hd_X2_has ⟨Nat.le_of_ble_eq_true rfl, Nat.le_of_ble_eq_true rfl⟩) ⟨hK, hE⟩ (hP.sub (ws' := [(p0, .inr (2, [.ref p1, .ref p2, .ref p3, .ref p4, .int (nI cnt)]))]) [0] rfl) (va_recv hK hP (ci := 2) (q0 := 0) rfl rfl) rfl hl.1 rfl (Nat.le_of_ble_eq_true rfl) dX2_startAt_2 (Nat.zero_le _) (Nat.zero_le _) ?_
  refine z_if_eqP (tgt := 17) hx hb dX2_startAt_5 (by decide) (fun c_5 => ?_) (fun c_5 => ?_)
  · exact absurd hg c_5
  · refine lv_aload_n hx hb dX2_startAt_8 rfl (lv_at hl 0 rfl) ?_
    refine va_get (v := .ref p4) hx hb hts hi_2 hown hK hP 0 rfl rfl 3 (by decide) f_21 (fun _ h => h) rfl dX2_startAt_9 ?_
    refine lv_iload_n hx hb dX2_startAt_12 rfl (lv_at hl 1 rfl) ?_
    refine z_ialdN hx hb hK hP 4 0 rfl rfl (by omega) (by omega) dX2_startAt_13 ?_
    refine lv_goto (tgt := 18) hx hb dX2_startAt_14 (by decide) ?_
    exact ro_iret hQ hx hb hr hlocks rfl dX2_startAt_18
set_option maxHeartbeats 4000000 in
set_option maxRecDepth 100000 in
theorem c_X2_codeAt (l : Launch) (D : va_G) (cI : ClassId) (p0 : Nat) (p1 : Nat) (p2 : Nat) (p3 : Nat) (p4 : Nat) (f : Nat → Nat) (lf : Nat → Nat) (C : Nat → Int32) (ps : Nat → Nat) (cnt : Nat) (g : Nat) (hcnt : cnt ≤ 24) (hg : g < cnt) (hps : ∀ j, j < cnt → ps j < 24) : RO l yX2_codeAt wsX2_codeAt rm_X2_codeAt D cI [(p0, .inr (2, [.ref p1, .ref p2, .ref p3, .ref p4, .int (nI cnt)])), (p1, .inl (cI, 25, .inl (nA f))), (p2, .inl (cI, 24, .inl (nA lf))), (p3, .inl (cI, 24, .inl C)), (p4, .inl (cI, 24, .inl (nA ps)))] [.ref p0, .int (nI g)] (.int (C (ps g))) := by
  refine ro_of (C := RX2) (cc := cX2_codeAt) (maxL := 3) (ret := (some .int)) rfl (by decide) rfl (Nat.le_of_ble_eq_true rfl) ?_
  intro pg ev sv mi ag bl mt cd ls Q hQ hx hb hr hlocks hml hts hown hK hE hP hl
  have hP : va_P D vwCl [(p0, .inr (2, [.ref p1, .ref p2, .ref p3, .ref p4, .int (nI cnt)])), (p1, .inl (cI, 25, .inl (nA f))), (p2, .inl (cI, 24, .inl (nA lf))), (p3, .inl (cI, 24, .inl C)), (p4, .inl (cI, 24, .inl (nA ps)))] sv.heap := hP
  have hl : lv_has ls 3 [(0, .ref p0), (1, .int (nI g))] := hl
  have f_18 := hts (.fieldLink RX2 18 "TelegraphDesk$Parting" "codes" "[I") (by decide +kernel)
  have hi_2 : ∀ w ∈ wsX20, w ∈ wsX2_codeAt := by decide +kernel
  have h2 := hps g hg
  refine lv_aload_n hx hb dX2_codeAt_0 rfl (lv_at hl 0 rfl) ?_
  refine lv_iload_n hx hb dX2_codeAt_1 rfl (lv_at hl 1 rfl) ?_
  refine z_roV (As := [.int (nI g)]) (rest := []) ⟨hx, hb, hml, hown, hts⟩ (c_X2_startAt l D cI p0 p1 p2 p3 p4 f lf C ps cnt g (by first | assumption | omega) (by first | assumption | omega)) (cwV 1 hts gX2_codeAt_X2_startAt rfl rfl rfl hd_X2_startAt ⟨Nat.le_of_ble_eq_true rfl, Nat.le_of_ble_eq_true rfl⟩) ⟨hK, hE⟩ (hP.sub (ws' := [(p0, .inr (2, [.ref p1, .ref p2, .ref p3, .ref p4, .int (nI cnt)])), (p1, .inl (cI, 25, .inl (nA f))), (p2, .inl (cI, 24, .inl (nA lf))), (p3, .inl (cI, 24, .inl C)), (p4, .inl (cI, 24, .inl (nA ps)))]) [0, 1, 2, 3, 4] rfl) (va_recv hK hP (ci := 2) (q0 := 0) rfl rfl) rfl hl.1 rfl (Nat.le_of_ble_eq_true rfl) dX2_codeAt_2 (Nat.zero_le _) (Nat.zero_le _) ?_
  refine lv_istore_n (lv' := [(2, .int (nI (ps g))), (0, .ref p0), (1, .int (nI g))]) hx hb dX2_codeAt_5 rfl hl (by decide) rfl (fun ls hl => ?_)
  refine lv_iload_n hx hb dX2_codeAt_6 rfl (lv_at hl 0 rfl) ?_
  refine z_if_lt (tgt := 25) hx hb dX2_codeAt_7 (by decide) (by omega) ?_
  refine lv_iload_n hx hb dX2_codeAt_10 rfl (lv_at hl 0 rfl) ?_
  refine z_bipush (n := 24) hx hb rfl (by decide) dX2_codeAt_11 ?_
  refine z_icmp_ge (tgt := 25) hx hb dX2_codeAt_13 (by decide) (by omega) (by omega) (fun c_13 => ?_) (fun c_13 => ?_)
  · exact absurd h2 (by omega)
  · refine lv_aload_n hx hb dX2_codeAt_16 rfl (lv_at hl 1 rfl) ?_
    refine va_get (v := .ref p3) hx hb hts hi_2 hown hK hP 0 rfl rfl 2 (by decide) f_18 (fun _ h => h) rfl dX2_codeAt_17 ?_
    refine lv_iload_n hx hb dX2_codeAt_20 rfl (lv_at hl 0 rfl) ?_
    refine z_iald hx hb hK hP 3 0 rfl rfl (by omega) (by omega) dX2_codeAt_21 ?_
    refine lv_goto (tgt := 26) hx hb dX2_codeAt_22 (by decide) ?_
    exact ro_iret hQ hx hb hr hlocks rfl dX2_codeAt_26
set_option maxHeartbeats 4000000 in
set_option maxRecDepth 100000 in
theorem c_X2_groupsWith (l : Launch) (D : va_G) (cI : ClassId) (p0 : Nat) (p1 : Nat) (p2 : Nat) (p3 : Nat) (p4 : Nat) (f : Nat → Nat) (lf : Nat → Nat) (C : Nat → Int32) (ps : Nat → Nat) (cnt : Nat) (x : Int32) (hcnt : cnt ≤ 24) (hps : ∀ j, j < cnt → ps j < 24) : RO l yX2_groupsWith wsX2_groupsWith rm_X2_groupsWith D cI [(p0, .inr (2, [.ref p1, .ref p2, .ref p3, .ref p4, .int (nI cnt)])), (p1, .inl (cI, 25, .inl (nA f))), (p2, .inl (cI, 24, .inl (nA lf))), (p3, .inl (cI, 24, .inl C)), (p4, .inl (cI, 24, .inl (nA ps)))] [.ref p0, .int x] (.int (nI (cN (fun j => C (ps j) = x) cnt))) := by
  refine ro_of (C := RX2) (cc := cX2_groupsWith) (maxL := 4) (ret := (some .int)) rfl (by decide) rfl (Nat.le_of_ble_eq_true rfl) ?_
  intro pg ev sv mi ag bl mt cd ls Q hQ hx hb hr hlocks hml hts hown hK hE hP hl
  have hP : va_P D vwCl [(p0, .inr (2, [.ref p1, .ref p2, .ref p3, .ref p4, .int (nI cnt)])), (p1, .inl (cI, 25, .inl (nA f))), (p2, .inl (cI, 24, .inl (nA lf))), (p3, .inl (cI, 24, .inl C)), (p4, .inl (cI, 24, .inl (nA ps)))] sv.heap := hP
  have hl : lv_has ls 4 [(0, .ref p0), (1, .int x)] := hl
  have f_24 := hts (.fieldLink RX2 24 "TelegraphDesk$Parting" "count" "I") (by decide +kernel)
  have hi_2 : ∀ w ∈ wsX20, w ∈ wsX2_groupsWith := by decide +kernel
  refine lv_iconst (v := nI 0) hx hb dX2_groupsWith_0 ci_0 ?_
  refine lv_istore_n (lv' := [(2, .int (nI 0)), (0, .ref p0), (1, .int x)]) hx hb dX2_groupsWith_1 rfl hl (by decide) rfl (fun ls hl => ?_)
  refine lv_iconst (v := nI 0) hx hb dX2_groupsWith_2 ci_0 ?_
  refine lv_istore_n (lv' := [(3, .int (nI 0)), (2, .int (nI 0)), (0, .ref p0), (1, .int x)]) hx hb dX2_groupsWith_3 rfl hl (by decide) rfl (fun ls hl => ?_)
  have lp_4 : ∀ (Nf : Nat) (i : Nat) (ac : Nat) (hi : i ≤ cnt) (hac : ac = cN (fun j => C (ps j) = x) i) (hN : cnt - i < Nf) (ls : Array Slot), lv_has ls 4 [(3, .int (nI i)), (2, .int (nI ac)), (0, .ref p0), (1, .int x)] → W pg l ev rm_X2_groupsWith sv mi ag bl mt cd sv.heap [] 0 0 Q (F0 mi 4 ls []) := by
    intro Nf
    induction Nf with
    | zero =>
      intro i ac hi hac hN
      exact absurd hN (Nat.not_lt_zero _)
    | succ Nf ih_4 =>
      intro i ac hi hac hN ls hl
      refine lv_iload_n hx hb dX2_groupsWith_4 rfl (lv_at hl 0 rfl) ?_
      refine lv_aload_n hx hb dX2_groupsWith_5 rfl (lv_at hl 2 rfl) ?_
      refine va_get (v := .int (nI cnt)) hx hb hts hi_2 hown hK hP 0 rfl rfl 4 (by decide) f_24 (fun _ h => h) rfl dX2_groupsWith_6 ?_
      refine z_icmp_ge (tgt := 30) hx hb dX2_groupsWith_9 (by decide) (by omega) (by omega) (fun c_9 => ?_) (fun c_9 => ?_)
      · refine lv_iload_n hx hb dX2_groupsWith_30 rfl (lv_at hl 1 rfl) ?_
        exact ro_iret hQ hx hb hr hlocks (by rw [hac, show i = cnt by omega]) dX2_groupsWith_31
      · have hb9 := cN_le (fun j => C (ps j) = x) i
        refine lv_aload_n hx hb dX2_groupsWith_12 rfl (lv_at hl 2 rfl) ?_
        refine lv_iload_n hx hb dX2_groupsWith_13 rfl (lv_at hl 0 rfl) ?_
        refine z_roV (As := [.int (nI i)]) (rest := []) ⟨hx, hb, hml, hown, hts⟩ (c_X2_codeAt l D cI p0 p1 p2 p3 p4 f lf C ps cnt i (by first | assumption | omega) (by first | assumption | omega) (by first | assumption | omega)) (cwV 1 hts gX2_groupsWith_X2_codeAt rfl rfl rfl hd_X2_codeAt ⟨Nat.le_of_ble_eq_true rfl, Nat.le_of_ble_eq_true rfl⟩) ⟨hK, hE⟩ (hP.sub (ws' := [(p0, .inr (2, [.ref p1, .ref p2, .ref p3, .ref p4, .int (nI cnt)])), (p1, .inl (cI, 25, .inl (nA f))), (p2, .inl (cI, 24, .inl (nA lf))), (p3, .inl (cI, 24, .inl C)), (p4, .inl (cI, 24, .inl (nA ps)))]) [0, 1, 2, 3, 4] rfl) (va_recv hK hP (ci := 2) (q0 := 0) rfl rfl) rfl hl.1 rfl (Nat.le_of_ble_eq_true rfl) dX2_groupsWith_14 (Nat.zero_le _) (Nat.zero_le _) ?_
        refine lv_iload_n hx hb dX2_groupsWith_17 rfl (lv_at hl 3 rfl) ?_
        refine lv_icmp_ne (tgt := 24) hx hb dX2_groupsWith_18 (by decide) (fun c_18 => ?_) (fun c_18 => ?_)
        · refine lv_iinc (v := nI (i + 1)) (lv' := [(3, .int (nI (i + 1))), (2, .int (nI ac)), (0, .ref p0), (1, .int x)]) hx hb dX2_groupsWith_24 hl (k := 0) rfl (z_inc1 _) (by decide) rfl (fun ls hl => ?_)
          refine lv_goto (tgt := 4) hx hb dX2_groupsWith_27 (by decide) ?_
          exact ih_4 (i + 1) ac (by omega) (by first | (rw [hac]; exact (cN_t c_18).symm) | (rw [hac]; exact (cN_f c_18).symm)) (by omega) ls (lv_sub hl [0, 1, 2, 3] rfl)
        · refine lv_iinc (v := nI (ac + 1)) (lv' := [(2, .int (nI (ac + 1))), (3, .int (nI i)), (0, .ref p0), (1, .int x)]) hx hb dX2_groupsWith_21 hl (k := 1) rfl (z_inc1 _) (by decide) rfl (fun ls hl => ?_)
          refine lv_iinc (v := nI (i + 1)) (lv' := [(3, .int (nI (i + 1))), (2, .int (nI (ac + 1))), (0, .ref p0), (1, .int x)]) hx hb dX2_groupsWith_24 hl (k := 1) rfl (z_inc1 _) (by decide) rfl (fun ls hl => ?_)
          refine lv_goto (tgt := 4) hx hb dX2_groupsWith_27 (by decide) ?_
          exact ih_4 (i + 1) (ac + 1) (by omega) (by first | (rw [hac]; exact (cN_t c_18).symm) | (rw [hac]; exact (cN_f c_18).symm)) (by omega) ls (lv_sub hl [0, 1, 2, 3] rfl)
  exact lp_4 ((cnt - 0) + 1) 0 0 (Nat.zero_le _) rfl (Nat.lt_succ_self _) ls hl
set_option maxHeartbeats 4000000 in
set_option maxRecDepth 100000 in
theorem c_X2_takeWord (l : Launch) (D : va_G) (cI : ClassId) (p0 : Nat) (p1 : Nat) (p2 : Nat) (p3 : Nat) (p4 : Nat) (f : Nat → Nat) (lf : Nat → Nat) (C : Nat → Int32) (ps : Nat → Nat) (cnt : Nat) (w : Nat) (hw : w < 24) : MU l yX2_takeWord wsX2_takeWord rm_X2_takeWord D cI [(p0, .inr (2, [.ref p1, .ref p2, .ref p3, .ref p4, .int (nI cnt)])), (p1, .inl (cI, 25, .inl (nA f))), (p2, .inl (cI, 24, .inl (nA lf))), (p3, .inl (cI, 24, .inl C)), (p4, .inl (cI, 24, .inl (nA ps)))] [.ref p0, .int (nI w)] (fun (v9 : Option Value) (u9 : Unit) => v9 = none) (fun (u9 : Unit) => [(p0, .inr (2, [.ref p1, .ref p2, .ref p3, .ref p4, .int (nI cnt)])), (p1, .inl (cI, 25, .inl (nA (updN f w (f (w + 1) + 1))))), (p2, .inl (cI, 24, .inl (nA (updN lf w 1)))), (p3, .inl (cI, 24, .inl (upd C w (-1)))), (p4, .inl (cI, 24, .inl (nA ps)))]) := by
  refine mu_of (C := RX2) (cc := cX2_takeWord) (maxL := 2) (ret := none) rfl (by decide) rfl (Nat.le_of_ble_eq_true rfl) ?_
  intro pg ev sv mi ag bl mt cd ls Q A hA hQ hx hb hr hlocks hml hts hown hK hE hD H locs hP hS hl
  have hD : zDD A [p0, p1, p2, p3, p4] := hD
  have hl : lv_has ls 2 [(0, .ref p0), (1, .int (nI w))] := hl
  have f_9 := hts (.fieldLink RX2 9 "TelegraphDesk$Parting" "fewest" "[I") (by decide +kernel)
  have f_15 := hts (.fieldLink RX2 15 "TelegraphDesk$Parting" "lengths" "[I") (by decide +kernel)
  have f_18 := hts (.fieldLink RX2 18 "TelegraphDesk$Parting" "codes" "[I") (by decide +kernel)
  have hi_2 : ∀ w ∈ wsX20, w ∈ wsX2_takeWord := by decide +kernel
  refine lv_aload_n hx hb dX2_takeWord_0 rfl (lv_at hl 0 rfl) ?_
  refine va_get (v := .ref p1) hx hb hts hi_2 hown hK hP 0 rfl rfl 0 (by decide) f_9 (fun _ h => h) rfl dX2_takeWord_1 ?_
  refine lv_iload_n hx hb dX2_takeWord_4 rfl (lv_at hl 1 rfl) ?_
  refine lv_aload_n hx hb dX2_takeWord_5 rfl (lv_at hl 0 rfl) ?_
  refine va_get (v := .ref p1) hx hb hts hi_2 hown hK hP 0 rfl rfl 0 (by decide) f_9 (fun _ h => h) rfl dX2_takeWord_6 ?_
  refine lv_iload_n hx hb dX2_takeWord_9 rfl (lv_at hl 1 rfl) ?_
  refine lv_iconst (v := nI 1) hx hb dX2_takeWord_10 ci_1 ?_
  refine z_iadd hx hb dX2_takeWord_11 ?_
  refine z_ialdN hx hb hK hP 1 0 rfl rfl (by omega) (by omega) dX2_takeWord_12 ?_
  refine lv_iconst (v := nI 1) hx hb dX2_takeWord_13 ci_1 ?_
  refine z_iadd hx hb dX2_takeWord_14 ?_
  refine z_iastN hx hb hK hP hD rfl hS 1 0 rfl rfl (by omega) (by omega) dX2_takeWord_15 (fun H locs hP hS => ?_)
  have hP : va_P D vwCl [(p0, .inr (2, [.ref p1, .ref p2, .ref p3, .ref p4, .int (nI cnt)])), (p1, .inl (cI, 25, .inl (nA (updN f w ((f (w + 1)) + 1))))), (p2, .inl (cI, 24, .inl (nA lf))), (p3, .inl (cI, 24, .inl C)), (p4, .inl (cI, 24, .inl (nA ps)))] H := hP
  refine lv_aload_n hx hb dX2_takeWord_16 rfl (lv_at hl 0 rfl) ?_
  refine va_get (v := .ref p2) hx hb hts hi_2 hown hK hP 0 rfl rfl 1 (by decide) f_15 (fun _ h => h) rfl dX2_takeWord_17 ?_
  refine lv_iload_n hx hb dX2_takeWord_20 rfl (lv_at hl 1 rfl) ?_
  refine lv_iconst (v := nI 1) hx hb dX2_takeWord_21 ci_1 ?_
  refine z_iastN hx hb hK hP hD rfl hS 2 0 rfl rfl (by omega) (by omega) dX2_takeWord_22 (fun H locs hP hS => ?_)
  have hP : va_P D vwCl [(p0, .inr (2, [.ref p1, .ref p2, .ref p3, .ref p4, .int (nI cnt)])), (p1, .inl (cI, 25, .inl (nA (updN f w ((f (w + 1)) + 1))))), (p2, .inl (cI, 24, .inl (nA (updN lf w 1)))), (p3, .inl (cI, 24, .inl C)), (p4, .inl (cI, 24, .inl (nA ps)))] H := hP
  refine lv_aload_n hx hb dX2_takeWord_23 rfl (lv_at hl 0 rfl) ?_
  refine va_get (v := .ref p3) hx hb hts hi_2 hown hK hP 0 rfl rfl 2 (by decide) f_18 (fun _ h => h) rfl dX2_takeWord_24 ?_
  refine lv_iload_n hx hb dX2_takeWord_27 rfl (lv_at hl 1 rfl) ?_
  refine lv_iconst (v := -1) hx hb dX2_takeWord_28 ci_m1 ?_
  refine z_iast hx hb hK hP hD rfl hS 3 0 rfl rfl (by omega) (by omega) dX2_takeWord_29 (fun H locs hP hS => ?_)
  have hP : va_P D vwCl [(p0, .inr (2, [.ref p1, .ref p2, .ref p3, .ref p4, .int (nI cnt)])), (p1, .inl (cI, 25, .inl (nA (updN f w ((f (w + 1)) + 1))))), (p2, .inl (cI, 24, .inl (nA (updN lf w 1)))), (p3, .inl (cI, 24, .inl (upd C w (-1)))), (p4, .inl (cI, 24, .inl (nA ps)))] H := hP
  exact mu_vret hA hQ hx hb hr hlocks () hP hS rfl dX2_takeWord_30
set_option maxHeartbeats 4000000 in
set_option maxRecDepth 100000 in
theorem c_X2_takeIfBetter (l : Launch) (D : va_G) (cI : ClassId) (p0 : Nat) (p1 : Nat) (p2 : Nat) (p3 : Nat) (p4 : Nat) (f : Nat → Nat) (lf : Nat → Nat) (C : Nat → Int32) (ps : Nat → Nat) (cnt : Nat) (w : Nat) (m2 : Nat) (cx : Int32) (hm : 1 ≤ m2 ∧ w + m2 ≤ 24) (h1 : f w ≤ 25) (h2 : lf w ≤ 4) (h3 : f (w + m2) ≤ 24) : MU l yX2_takeIfBetter wsX2_takeIfBetter rm_X2_takeIfBetter D cI [(p0, .inr (2, [.ref p1, .ref p2, .ref p3, .ref p4, .int (nI cnt)])), (p1, .inl (cI, 25, .inl (nA f))), (p2, .inl (cI, 24, .inl (nA lf))), (p3, .inl (cI, 24, .inl C)), (p4, .inl (cI, 24, .inl (nA ps)))] [.ref p0, .int (nI w), .int (nI m2), .int cx] (fun (v9 : Option Value) (u9 : (Nat → Nat) × (Nat → Nat) × (Nat → Int32)) => v9 = none ∧ (Tk f lf C w m2 cx u9.1 u9.2.1 u9.2.2)) (fun (u9 : (Nat → Nat) × (Nat → Nat) × (Nat → Int32)) => [(p0, .inr (2, [.ref p1, .ref p2, .ref p3, .ref p4, .int (nI cnt)])), (p1, .inl (cI, 25, .inl (nA u9.1))), (p2, .inl (cI, 24, .inl (nA u9.2.1))), (p3, .inl (cI, 24, .inl u9.2.2)), (p4, .inl (cI, 24, .inl (nA ps)))]) := by
  refine mu_of (C := RX2) (cc := cX2_takeIfBetter) (maxL := 5) (ret := none) rfl (by decide) rfl (Nat.le_of_ble_eq_true rfl) ?_
  intro pg ev sv mi ag bl mt cd ls Q A hA hQ hx hb hr hlocks hml hts hown hK hE hD H locs hP hS hl
  have hD : zDD A [p0, p1, p2, p3, p4] := hD
  have hl : lv_has ls 5 [(0, .ref p0), (1, .int (nI w)), (2, .int (nI m2)), (3, .int cx)] := hl
  have f_9 := hts (.fieldLink RX2 9 "TelegraphDesk$Parting" "fewest" "[I") (by decide +kernel)
  have f_15 := hts (.fieldLink RX2 15 "TelegraphDesk$Parting" "lengths" "[I") (by decide +kernel)
  have f_18 := hts (.fieldLink RX2 18 "TelegraphDesk$Parting" "codes" "[I") (by decide +kernel)
  have hi_2 : ∀ w ∈ wsX20, w ∈ wsX2_takeIfBetter := by decide +kernel
  refine lv_iload_n hx hb dX2_takeIfBetter_0 rfl (lv_at hl 1 rfl) ?_
  refine lv_iload_n hx hb dX2_takeIfBetter_1 rfl (lv_at hl 2 rfl) ?_
  refine z_iadd hx hb dX2_takeIfBetter_2 ?_
  refine z_bipush (n := 24) hx hb rfl (by decide) dX2_takeIfBetter_3 ?_
  refine z_icmp_le (tgt := 9) hx hb dX2_takeIfBetter_5 (by decide) (by omega) (by omega) (fun c_5 => ?_) (fun c_5 => ?_)
  · refine lv_aload_n hx hb dX2_takeIfBetter_9 rfl (lv_at hl 0 rfl) ?_
    refine va_get (v := .ref p1) hx hb hts hi_2 hown hK hP 0 rfl rfl 0 (by decide) f_9 (fun _ h => h) rfl dX2_takeIfBetter_10 ?_
    refine lv_iload_n hx hb dX2_takeIfBetter_13 rfl (lv_at hl 1 rfl) ?_
    refine lv_iload_n hx hb dX2_takeIfBetter_14 rfl (lv_at hl 2 rfl) ?_
    refine z_iadd hx hb dX2_takeIfBetter_15 ?_
    refine z_ialdN hx hb hK hP 1 0 rfl rfl (by omega) (by omega) dX2_takeIfBetter_16 ?_
    refine lv_iconst (v := nI 1) hx hb dX2_takeIfBetter_17 ci_1 ?_
    refine z_iadd hx hb dX2_takeIfBetter_18 ?_
    refine lv_istore (lv' := [(4, .int (nI ((f (w + m2)) + 1))), (0, .ref p0), (1, .int (nI w)), (2, .int (nI m2)), (3, .int cx)]) hx hb dX2_takeIfBetter_19 hl (by decide) rfl (fun ls hl => ?_)
    refine lv_iload hx hb dX2_takeIfBetter_21 (lv_at hl 0 rfl) ?_
    refine lv_aload_n hx hb dX2_takeIfBetter_23 rfl (lv_at hl 1 rfl) ?_
    refine va_get (v := .ref p1) hx hb hts hi_2 hown hK hP 0 rfl rfl 0 (by decide) f_9 (fun _ h => h) rfl dX2_takeIfBetter_24 ?_
    refine lv_iload_n hx hb dX2_takeIfBetter_27 rfl (lv_at hl 2 rfl) ?_
    refine z_ialdN hx hb hK hP 1 0 rfl rfl (by omega) (by omega) dX2_takeIfBetter_28 ?_
    refine z_icmp_lt (tgt := 53) hx hb dX2_takeIfBetter_29 (by decide) (by omega) (by omega) (fun c_29 => ?_) (fun c_29 => ?_)
    · refine lv_aload_n hx hb dX2_takeIfBetter_53 rfl (lv_at hl 1 rfl) ?_
      refine va_get (v := .ref p1) hx hb hts hi_2 hown hK hP 0 rfl rfl 0 (by decide) f_9 (fun _ h => h) rfl dX2_takeIfBetter_54 ?_
      refine lv_iload_n hx hb dX2_takeIfBetter_57 rfl (lv_at hl 2 rfl) ?_
      refine lv_iload hx hb dX2_takeIfBetter_58 (lv_at hl 0 rfl) ?_
      refine z_iastN hx hb hK hP hD rfl hS 1 0 rfl rfl (by omega) (by omega) dX2_takeIfBetter_60 (fun H locs hP hS => ?_)
      have hP : va_P D vwCl [(p0, .inr (2, [.ref p1, .ref p2, .ref p3, .ref p4, .int (nI cnt)])), (p1, .inl (cI, 25, .inl (nA (updN f w ((f (w + m2)) + 1))))), (p2, .inl (cI, 24, .inl (nA lf))), (p3, .inl (cI, 24, .inl C)), (p4, .inl (cI, 24, .inl (nA ps)))] H := hP
      refine lv_aload_n hx hb dX2_takeIfBetter_61 rfl (lv_at hl 1 rfl) ?_
      refine va_get (v := .ref p2) hx hb hts hi_2 hown hK hP 0 rfl rfl 1 (by decide) f_15 (fun _ h => h) rfl dX2_takeIfBetter_62 ?_
      refine lv_iload_n hx hb dX2_takeIfBetter_65 rfl (lv_at hl 2 rfl) ?_
      refine lv_iload_n hx hb dX2_takeIfBetter_66 rfl (lv_at hl 3 rfl) ?_
      refine z_iastN hx hb hK hP hD rfl hS 2 0 rfl rfl (by omega) (by omega) dX2_takeIfBetter_67 (fun H locs hP hS => ?_)
      have hP : va_P D vwCl [(p0, .inr (2, [.ref p1, .ref p2, .ref p3, .ref p4, .int (nI cnt)])), (p1, .inl (cI, 25, .inl (nA (updN f w ((f (w + m2)) + 1))))), (p2, .inl (cI, 24, .inl (nA (updN lf w m2)))), (p3, .inl (cI, 24, .inl C)), (p4, .inl (cI, 24, .inl (nA ps)))] H := hP
      refine lv_aload_n hx hb dX2_takeIfBetter_68 rfl (lv_at hl 1 rfl) ?_
      refine va_get (v := .ref p3) hx hb hts hi_2 hown hK hP 0 rfl rfl 2 (by decide) f_18 (fun _ h => h) rfl dX2_takeIfBetter_69 ?_
      refine lv_iload_n hx hb dX2_takeIfBetter_72 rfl (lv_at hl 2 rfl) ?_
      refine lv_iload_n hx hb dX2_takeIfBetter_73 rfl (lv_at hl 4 rfl) ?_
      refine z_iast hx hb hK hP hD rfl hS 3 0 rfl rfl (by omega) (by omega) dX2_takeIfBetter_74 (fun H locs hP hS => ?_)
      have hP : va_P D vwCl [(p0, .inr (2, [.ref p1, .ref p2, .ref p3, .ref p4, .int (nI cnt)])), (p1, .inl (cI, 25, .inl (nA (updN f w ((f (w + m2)) + 1))))), (p2, .inl (cI, 24, .inl (nA (updN lf w m2)))), (p3, .inl (cI, 24, .inl (upd C w cx))), (p4, .inl (cI, 24, .inl (nA ps)))] H := hP
      exact mu_vret hA hQ hx hb hr hlocks (updN f w ((f (w + m2)) + 1), updN lf w m2, upd C w cx) hP hS ⟨rfl, (by first | exact Or.inl ⟨Or.inl c_29, rfl, rfl, rfl⟩ | exact Or.inl ⟨Or.inr ⟨c_40, c_50⟩, rfl, rfl, rfl⟩ | exact Or.inr ⟨fun q => by unfold tib at q; omega, rfl, rfl, rfl⟩)⟩ dX2_takeIfBetter_75
    · refine lv_iload hx hb dX2_takeIfBetter_32 (lv_at hl 0 rfl) ?_
      refine lv_aload_n hx hb dX2_takeIfBetter_34 rfl (lv_at hl 1 rfl) ?_
      refine va_get (v := .ref p1) hx hb hts hi_2 hown hK hP 0 rfl rfl 0 (by decide) f_9 (fun _ h => h) rfl dX2_takeIfBetter_35 ?_
      refine lv_iload_n hx hb dX2_takeIfBetter_38 rfl (lv_at hl 2 rfl) ?_
      refine z_ialdN hx hb hK hP 1 0 rfl rfl (by omega) (by omega) dX2_takeIfBetter_39 ?_
      refine z_icmp_ne (tgt := 75) hx hb dX2_takeIfBetter_40 (by decide) (by omega) (by omega) (fun c_40 => ?_) (fun c_40 => ?_)
      · exact mu_vret hA hQ hx hb hr hlocks (f, lf, C) hP hS ⟨rfl, (by first | exact Or.inl ⟨Or.inl c_29, rfl, rfl, rfl⟩ | exact Or.inl ⟨Or.inr ⟨c_40, c_50⟩, rfl, rfl, rfl⟩ | exact Or.inr ⟨fun q => by unfold tib at q; omega, rfl, rfl, rfl⟩)⟩ dX2_takeIfBetter_75
      · refine lv_iload_n hx hb dX2_takeIfBetter_43 rfl (lv_at hl 3 rfl) ?_
        refine lv_aload_n hx hb dX2_takeIfBetter_44 rfl (lv_at hl 1 rfl) ?_
        refine va_get (v := .ref p2) hx hb hts hi_2 hown hK hP 0 rfl rfl 1 (by decide) f_15 (fun _ h => h) rfl dX2_takeIfBetter_45 ?_
        refine lv_iload_n hx hb dX2_takeIfBetter_48 rfl (lv_at hl 2 rfl) ?_
        refine z_ialdN hx hb hK hP 2 0 rfl rfl (by omega) (by omega) dX2_takeIfBetter_49 ?_
        refine z_icmp_le (tgt := 75) hx hb dX2_takeIfBetter_50 (by decide) (by omega) (by omega) (fun c_50 => ?_) (fun c_50 => ?_)
        · exact mu_vret hA hQ hx hb hr hlocks (f, lf, C) hP hS ⟨rfl, (by first | exact Or.inl ⟨Or.inl c_29, rfl, rfl, rfl⟩ | exact Or.inl ⟨Or.inr ⟨c_40, c_50⟩, rfl, rfl, rfl⟩ | exact Or.inr ⟨fun q => by unfold tib at q; omega, rfl, rfl, rfl⟩)⟩ dX2_takeIfBetter_75
        · refine lv_aload_n hx hb dX2_takeIfBetter_53 rfl (lv_at hl 1 rfl) ?_
          refine va_get (v := .ref p1) hx hb hts hi_2 hown hK hP 0 rfl rfl 0 (by decide) f_9 (fun _ h => h) rfl dX2_takeIfBetter_54 ?_
          refine lv_iload_n hx hb dX2_takeIfBetter_57 rfl (lv_at hl 2 rfl) ?_
          refine lv_iload hx hb dX2_takeIfBetter_58 (lv_at hl 0 rfl) ?_
          refine z_iastN hx hb hK hP hD rfl hS 1 0 rfl rfl (by omega) (by omega) dX2_takeIfBetter_60 (fun H locs hP hS => ?_)
          have hP : va_P D vwCl [(p0, .inr (2, [.ref p1, .ref p2, .ref p3, .ref p4, .int (nI cnt)])), (p1, .inl (cI, 25, .inl (nA (updN f w ((f (w + m2)) + 1))))), (p2, .inl (cI, 24, .inl (nA lf))), (p3, .inl (cI, 24, .inl C)), (p4, .inl (cI, 24, .inl (nA ps)))] H := hP
          refine lv_aload_n hx hb dX2_takeIfBetter_61 rfl (lv_at hl 1 rfl) ?_
          refine va_get (v := .ref p2) hx hb hts hi_2 hown hK hP 0 rfl rfl 1 (by decide) f_15 (fun _ h => h) rfl dX2_takeIfBetter_62 ?_
          refine lv_iload_n hx hb dX2_takeIfBetter_65 rfl (lv_at hl 2 rfl) ?_
          refine lv_iload_n hx hb dX2_takeIfBetter_66 rfl (lv_at hl 3 rfl) ?_
          refine z_iastN hx hb hK hP hD rfl hS 2 0 rfl rfl (by omega) (by omega) dX2_takeIfBetter_67 (fun H locs hP hS => ?_)
          have hP : va_P D vwCl [(p0, .inr (2, [.ref p1, .ref p2, .ref p3, .ref p4, .int (nI cnt)])), (p1, .inl (cI, 25, .inl (nA (updN f w ((f (w + m2)) + 1))))), (p2, .inl (cI, 24, .inl (nA (updN lf w m2)))), (p3, .inl (cI, 24, .inl C)), (p4, .inl (cI, 24, .inl (nA ps)))] H := hP
          refine lv_aload_n hx hb dX2_takeIfBetter_68 rfl (lv_at hl 1 rfl) ?_
          refine va_get (v := .ref p3) hx hb hts hi_2 hown hK hP 0 rfl rfl 2 (by decide) f_18 (fun _ h => h) rfl dX2_takeIfBetter_69 ?_
          refine lv_iload_n hx hb dX2_takeIfBetter_72 rfl (lv_at hl 2 rfl) ?_
          refine lv_iload_n hx hb dX2_takeIfBetter_73 rfl (lv_at hl 4 rfl) ?_
          refine z_iast hx hb hK hP hD rfl hS 3 0 rfl rfl (by omega) (by omega) dX2_takeIfBetter_74 (fun H locs hP hS => ?_)
          have hP : va_P D vwCl [(p0, .inr (2, [.ref p1, .ref p2, .ref p3, .ref p4, .int (nI cnt)])), (p1, .inl (cI, 25, .inl (nA (updN f w ((f (w + m2)) + 1))))), (p2, .inl (cI, 24, .inl (nA (updN lf w m2)))), (p3, .inl (cI, 24, .inl (upd C w cx))), (p4, .inl (cI, 24, .inl (nA ps)))] H := hP
          exact mu_vret hA hQ hx hb hr hlocks (updN f w ((f (w + m2)) + 1), updN lf w m2, upd C w cx) hP hS ⟨rfl, (by first | exact Or.inl ⟨Or.inl c_29, rfl, rfl, rfl⟩ | exact Or.inl ⟨Or.inr ⟨c_40, c_50⟩, rfl, rfl, rfl⟩ | exact Or.inr ⟨fun q => by unfold tib at q; omega, rfl, rfl, rfl⟩)⟩ dX2_takeIfBetter_75
  · exact absurd hm.2 (by omega)
set_option maxHeartbeats 4000000 in
set_option maxRecDepth 100000 in
theorem c_X2_listStarts (l : Launch) (D : va_G) (cI : ClassId) (p0 : Nat) (p1 : Nat) (p2 : Nat) (p3 : Nat) (p4 : Nat) (f : Nat → Nat) (lf : Nat → Nat) (C : Nat → Int32) (ps : Nat → Nat) (cnt : Nat) (n : Nat) (hn : n ≤ 24) (hlf : ∀ j, j < n → 1 ≤ lf j ∧ j + lf j ≤ n ∧ lf j ≤ 4) : MU l yX2_listStarts wsX2_listStarts rm_X2_listStarts D cI [(p0, .inr (2, [.ref p1, .ref p2, .ref p3, .ref p4, .int (nI cnt)])), (p1, .inl (cI, 25, .inl (nA f))), (p2, .inl (cI, 24, .inl (nA lf))), (p3, .inl (cI, 24, .inl C)), (p4, .inl (cI, 24, .inl (nA ps)))] [.ref p0, .int (nI n)] (fun (v9 : Option Value) (u9 : (Nat → Nat) × Nat) => v9 = none ∧ (StI lf n u9.1 u9.2)) (fun (u9 : (Nat → Nat) × Nat) => [(p0, .inr (2, [.ref p1, .ref p2, .ref p3, .ref p4, .int (nI u9.2)])), (p1, .inl (cI, 25, .inl (nA f))), (p2, .inl (cI, 24, .inl (nA lf))), (p3, .inl (cI, 24, .inl C)), (p4, .inl (cI, 24, .inl (nA u9.1)))]) := by
  refine mu_of (C := RX2) (cc := cX2_listStarts) (maxL := 3) (ret := none) rfl (by decide) rfl (Nat.le_of_ble_eq_true rfl) ?_
  intro pg ev sv mi ag bl mt cd ls Q A hA hQ hx hb hr hlocks hml hts hown hK hE hD H locs hP hS hl
  have hD : zDD A [p0, p1, p2, p3, p4] := hD
  have hl : lv_has ls 3 [(0, .ref p0), (1, .int (nI n))] := hl
  have f_24 := hts (.fieldLink RX2 24 "TelegraphDesk$Parting" "count" "I") (by decide +kernel)
  have f_21 := hts (.fieldLink RX2 21 "TelegraphDesk$Parting" "starts" "[I") (by decide +kernel)
  have f_15 := hts (.fieldLink RX2 15 "TelegraphDesk$Parting" "lengths" "[I") (by decide +kernel)
  have hi_2 : ∀ w ∈ wsX20, w ∈ wsX2_listStarts := by decide +kernel
  refine lv_aload_n hx hb dX2_listStarts_0 rfl (lv_at hl 0 rfl) ?_
  refine lv_iconst (v := nI 0) hx hb dX2_listStarts_1 ci_0 ?_
  refine z_put hx hb hts hi_2 tyX2 tyX2_ok nmX2 hown hK hP hD rfl hS 0 rfl rfl 4 (by decide) f_24 (fun _ h => h) rfl (by decide +kernel) (Nat.le_of_ble_eq_true rfl) dX2_listStarts_2 (fun H locs hP hS => ?_)
  have hP : va_P D vwCl [(p0, .inr (2, [.ref p1, .ref p2, .ref p3, .ref p4, .int (nI 0)])), (p1, .inl (cI, 25, .inl (nA f))), (p2, .inl (cI, 24, .inl (nA lf))), (p3, .inl (cI, 24, .inl C)), (p4, .inl (cI, 24, .inl (nA ps)))] H := hP
  refine lv_iconst (v := nI 0) hx hb dX2_listStarts_5 ci_0 ?_
  refine lv_istore_n (lv' := [(2, .int (nI 0)), (0, .ref p0), (1, .int (nI n))]) hx hb dX2_listStarts_6 rfl hl (by decide) rfl (fun ls hl => ?_)
  have lp_7 : ∀ (Nf : Nat) (g : Nat) (ps1 : Nat → Nat) (hp : posN lf g ≤ n) (hg : g ≤ posN lf g) (hq : ∀ j, j < g → ps1 j = posN lf j ∧ posN lf j < n) (hN : n - posN lf g < Nf) (H : Heap) (locs : List Loc) (ls : Array Slot), va_P D vwCl [(p0, .inr (2, [.ref p1, .ref p2, .ref p3, .ref p4, .int (nI g)])), (p1, .inl (cI, 25, .inl (nA f))), (p2, .inl (cI, 24, .inl (nA lf))), (p3, .inl (cI, 24, .inl C)), (p4, .inl (cI, 24, .inl (nA ps1)))] H → va_S A sv.heap H locs → lv_has ls 3 [(2, .int (nI (posN lf g))), (0, .ref p0), (1, .int (nI n))] → W pg l ev rm_X2_listStarts sv mi ag bl mt cd H locs 0 0 Q (F0 mi 7 ls []) := by
    intro Nf
    induction Nf with
    | zero =>
      intro g ps1 hp hg hq hN
      exact absurd hN (Nat.not_lt_zero _)
    | succ Nf ih_7 =>
      intro g ps1 hp hg hq hN H locs ls hP hS hl
      refine lv_iload_n hx hb dX2_listStarts_7 rfl (lv_at hl 0 rfl) ?_
      refine lv_iload_n hx hb dX2_listStarts_8 rfl (lv_at hl 2 rfl) ?_
      refine z_icmp_ge (tgt := 53) hx hb dX2_listStarts_9 (by decide) (by omega) (by omega) (fun c_9 => ?_) (fun c_9 => ?_)
      · exact mu_vret hA hQ hx hb hr hlocks (ps1, g) hP hS ⟨rfl, ⟨hq, (show posN lf g = n by omega), (show g ≤ n by omega)⟩⟩ dX2_listStarts_53
      · refine lv_aload_n hx hb dX2_listStarts_12 rfl (lv_at hl 1 rfl) ?_
        refine va_get (v := .int (nI g)) hx hb hts hi_2 hown hK hP 0 rfl rfl 4 (by decide) f_24 (fun _ h => h) rfl dX2_listStarts_13 ?_
        refine z_bipush (n := 24) hx hb rfl (by decide) dX2_listStarts_16 ?_
        refine z_icmp_ge (tgt := 53) hx hb dX2_listStarts_18 (by decide) (by omega) (by omega) (fun c_18 => ?_) (fun c_18 => ?_)
        · exact absurd c_9 (by omega)
        · refine lv_aload_n hx hb dX2_listStarts_21 rfl (lv_at hl 1 rfl) ?_
          refine va_get (v := .ref p4) hx hb hts hi_2 hown hK hP 0 rfl rfl 3 (by decide) f_21 (fun _ h => h) rfl dX2_listStarts_22 ?_
          refine lv_aload_n hx hb dX2_listStarts_25 rfl (lv_at hl 1 rfl) ?_
          refine va_get (v := .int (nI g)) hx hb hts hi_2 hown hK hP 0 rfl rfl 4 (by decide) f_24 (fun _ h => h) rfl dX2_listStarts_26 ?_
          refine lv_iload_n hx hb dX2_listStarts_29 rfl (lv_at hl 0 rfl) ?_
          refine z_iastN hx hb hK hP hD rfl hS 4 0 rfl rfl (by omega) (by omega) dX2_listStarts_30 (fun H locs hP hS => ?_)
          have hP : va_P D vwCl [(p0, .inr (2, [.ref p1, .ref p2, .ref p3, .ref p4, .int (nI g)])), (p1, .inl (cI, 25, .inl (nA f))), (p2, .inl (cI, 24, .inl (nA lf))), (p3, .inl (cI, 24, .inl C)), (p4, .inl (cI, 24, .inl (nA (updN ps1 g (posN lf g)))))] H := hP
          refine lv_aload_n hx hb dX2_listStarts_31 rfl (lv_at hl 1 rfl) ?_
          refine lv_dup hx hb dX2_listStarts_32 rfl ?_
          refine va_get (v := .int (nI g)) hx hb hts hi_2 hown hK hP 0 rfl rfl 4 (by decide) f_24 (fun _ h => h) rfl dX2_listStarts_33 ?_
          refine lv_iconst (v := nI 1) hx hb dX2_listStarts_36 ci_1 ?_
          refine z_iadd hx hb dX2_listStarts_37 ?_
          refine z_put hx hb hts hi_2 tyX2 tyX2_ok nmX2 hown hK hP hD rfl hS 0 rfl rfl 4 (by decide) f_24 (fun _ h => h) rfl (by decide +kernel) (Nat.le_of_ble_eq_true rfl) dX2_listStarts_38 (fun H locs hP hS => ?_)
          have hP : va_P D vwCl [(p0, .inr (2, [.ref p1, .ref p2, .ref p3, .ref p4, .int (nI (g + 1))])), (p1, .inl (cI, 25, .inl (nA f))), (p2, .inl (cI, 24, .inl (nA lf))), (p3, .inl (cI, 24, .inl C)), (p4, .inl (cI, 24, .inl (nA (updN ps1 g (posN lf g)))))] H := hP
          refine lv_iload_n hx hb dX2_listStarts_41 rfl (lv_at hl 0 rfl) ?_
          refine lv_aload_n hx hb dX2_listStarts_42 rfl (lv_at hl 1 rfl) ?_
          refine va_get (v := .ref p2) hx hb hts hi_2 hown hK hP 0 rfl rfl 1 (by decide) f_15 (fun _ h => h) rfl dX2_listStarts_43 ?_
          refine lv_iload_n hx hb dX2_listStarts_46 rfl (lv_at hl 0 rfl) ?_
          refine z_ialdN hx hb hK hP 2 0 rfl rfl (by omega) (by omega) dX2_listStarts_47 ?_
          refine z_iadd hx hb dX2_listStarts_48 ?_
          refine lv_istore_n (lv' := [(2, .int (nI ((posN lf g) + (lf (posN lf g))))), (0, .ref p0), (1, .int (nI n))]) hx hb dX2_listStarts_49 rfl hl (by decide) rfl (fun ls hl => ?_)
          refine lv_goto (tgt := 7) hx hb dX2_listStarts_50 (by decide) ?_
          have h9 := hlf _ c_9
          exact ih_7 (g + 1) (updN ps1 g (posN lf g)) (show posN lf g + lf (posN lf g) ≤ n from h9.2.1) (show g + 1 ≤ posN lf g + lf (posN lf g) by omega) (lt_s (fun j hj => by rw [updN_n _ (by omega)]; exact hq j hj) ⟨updN_s _ _ _, c_9⟩) (show n - (posN lf g + lf (posN lf g)) < Nf by omega) H locs ls hP hS (lv_sub hl [0, 1, 2] rfl)
  exact lp_7 ((n - posN lf 0) + 1) 0 ps (Nat.zero_le _) (Nat.le_refl _) (fun _ h => absurd h (Nat.not_lt_zero _)) (Nat.lt_succ_self _) H locs ls hP hS hl
set_option maxHeartbeats 4000000 in
set_option maxRecDepth 100000 in
theorem c_X2_part (l : Launch) (D : va_G) (cI : ClassId) (p0 : Nat) (p1 : Nat) (p2 : Nat) (p3 : Nat) (p4 : Nat) (m0 : Nat) (m1 : Nat) (b0 : Nat) (b1 : Nat) (b2 : Nat) (f : Nat → Nat) (lf : Nat → Nat) (C : Nat → Int32) (ps : Nat → Nat) (cnt : Nat) (t : Nat → Nat) (n : Nat) (T : Nat → Int32) (Lf : Nat → Nat) (k : Nat) (wo : Int32) (ns : Nat) (nl : Nat) (hn : n ≤ 24) (hk : k ≤ 8) (hL : ∀ c, c < k → 2 ≤ Lf c ∧ Lf c ≤ 4) (hnew : nl = 0 ∨ (2 ≤ nl ∧ nl ≤ 4 ∧ ns + nl ≤ n)) : MU l yX2_part wsX2_part rm_X2_part D cI [(p0, .inr (2, [.ref p1, .ref p2, .ref p3, .ref p4, .int (nI cnt)])), (p1, .inl (cI, 25, .inl (nA f))), (p2, .inl (cI, 24, .inl (nA lf))), (p3, .inl (cI, 24, .inl C)), (p4, .inl (cI, 24, .inl (nA ps))), (m0, .inr (1, [.ref m1, .int (nI n)])), (m1, .inl (cI, 24, .inl (nA t))), (b0, .inr (0, [.ref b1, .ref b2, .int (nI k)])), (b1, .inl (cI, 32, .inl T)), (b2, .inl (cI, 8, .inl (nA Lf)))] [.ref p0, .ref m0, .ref b0, .int wo, .int (nI ns), .int (nI nl)] (fun (v9 : Option Value) (u9 : (Nat → Nat) × (Nat → Nat) × (Nat → Int32) × (Nat → Nat) × Nat) => v9 = none ∧ (PartC t n T Lf k wo ns nl u9.1 u9.2.1 u9.2.2.1 u9.2.2.2.1 u9.2.2.2.2)) (fun (u9 : (Nat → Nat) × (Nat → Nat) × (Nat → Int32) × (Nat → Nat) × Nat) => [(p0, .inr (2, [.ref p1, .ref p2, .ref p3, .ref p4, .int (nI u9.2.2.2.2)])), (p1, .inl (cI, 25, .inl (nA u9.1))), (p2, .inl (cI, 24, .inl (nA u9.2.1))), (p3, .inl (cI, 24, .inl u9.2.2.1)), (p4, .inl (cI, 24, .inl (nA u9.2.2.2.1))), (m0, .inr (1, [.ref m1, .int (nI n)])), (m1, .inl (cI, 24, .inl (nA t))), (b0, .inr (0, [.ref b1, .ref b2, .int (nI k)])), (b1, .inl (cI, 32, .inl T)), (b2, .inl (cI, 8, .inl (nA Lf)))]) := by
  refine mu_of (C := RX2) (cc := cX2_part) (maxL := 9) (ret := none) rfl (by decide) rfl (Nat.le_of_ble_eq_true rfl) ?_
  intro pg ev sv mi ag bl mt cd ls Q A hA hQ hx hb hr hlocks hml hts hown hK hE hD H locs hP hS hl
  have hD : zDD A [p0, p1, p2, p3, p4, m0, m1, b0, b1, b2] := hD
  have hl : lv_has ls 9 [(0, .ref p0), (1, .ref m0), (2, .ref b0), (3, .int wo), (4, .int (nI ns)), (5, .int (nI nl))] := hl
  have f_9 := hts (.fieldLink RX2 9 "TelegraphDesk$Parting" "fewest" "[I") (by decide +kernel)
  have hi_2 : ∀ w ∈ wsX20, w ∈ wsX2_part := by decide +kernel
  have hM := mb_C (t := t) (n := n) (T := T) (wo := wo) hL hnew
  refine lv_aload_n hx hb dX2_part_0 rfl (lv_at hl 1 rfl) ?_
  refine z_roV (As := []) (rest := []) ⟨hx, hb, hml, hown, hts⟩ (c_X1_size l D cI m0 m1 n) (cwV 0 hts gX2_part_X1_size rfl rfl rfl hd_X1_size ⟨Nat.le_of_ble_eq_true rfl, Nat.le_of_ble_eq_true rfl⟩) ⟨hK, hE⟩ (hP.sub (ws' := [(m0, .inr (1, [.ref m1, .int (nI n)]))]) [5] rfl) (va_recv hK hP (ci := 1) (q0 := 5) rfl rfl) rfl hl.1 rfl (Nat.le_of_ble_eq_true rfl) dX2_part_1 (Nat.zero_le _) (Nat.zero_le _) ?_
  refine z_bipush (n := 24) hx hb rfl (by decide) dX2_part_4 ?_
  refine va_mmin hx hb (by rw [hml]; exact hl.1.symm) hown (hts (.methodLink RX2 49 Lib.Math.min.name) (by decide +kernel)) (hts (.static Lib.Math.min.name) (by decide +kernel)) (hts (.initialized "java/lang/Math") (by decide +kernel)) (hts (.code Lib.Math.min.name Lib.Math.min.code 2 (some .int)) (by decide +kernel)) (Nat.le_of_ble_eq_true rfl) (Nat.le_of_ble_eq_true rfl) (Nat.zero_le _) (Nat.zero_le _) dX2_part_6 ?_
  refine z_top (y := nI n) (z_min24 hn) ?_
  refine lv_istore (lv' := [(6, .int (nI n)), (0, .ref p0), (1, .ref m0), (2, .ref b0), (3, .int wo), (4, .int (nI ns)), (5, .int (nI nl))]) hx hb dX2_part_9 hl (by decide) rfl (fun ls hl => ?_)
  refine lv_aload_n hx hb dX2_part_11 rfl (lv_at hl 1 rfl) ?_
  refine va_get (v := .ref p1) hx hb hts hi_2 hown hK hP 0 rfl rfl 0 (by decide) f_9 (fun _ h => h) rfl dX2_part_12 ?_
  refine lv_iload hx hb dX2_part_15 (lv_at hl 0 rfl) ?_
  refine lv_iconst (v := nI 0) hx hb dX2_part_17 ci_0 ?_
  refine z_iastN hx hb hK hP hD rfl hS 1 0 rfl rfl (by omega) (by omega) dX2_part_18 (fun H locs hP hS => ?_)
  have hP : va_P D vwCl [(p0, .inr (2, [.ref p1, .ref p2, .ref p3, .ref p4, .int (nI cnt)])), (p1, .inl (cI, 25, .inl (nA (updN f n 0)))), (p2, .inl (cI, 24, .inl (nA lf))), (p3, .inl (cI, 24, .inl C)), (p4, .inl (cI, 24, .inl (nA ps))), (m0, .inr (1, [.ref m1, .int (nI n)])), (m1, .inl (cI, 24, .inl (nA t))), (b0, .inr (0, [.ref b1, .ref b2, .int (nI k)])), (b1, .inl (cI, 32, .inl T)), (b2, .inl (cI, 8, .inl (nA Lf)))] H := hP
  refine lv_iload hx hb dX2_part_19 (lv_at hl 0 rfl) ?_
  refine lv_iconst (v := nI 1) hx hb dX2_part_21 ci_1 ?_
  refine lv_isub hx hb dX2_part_22 ?_
  refine lv_istore (lv' := [(7, .int (nI n - nI 1)), (6, .int (nI n)), (0, .ref p0), (1, .ref m0), (2, .ref b0), (3, .int wo), (4, .int (nI ns)), (5, .int (nI nl))]) hx hb dX2_part_23 hl (by decide) rfl (fun ls hl => ?_)
  have lp_25 : ∀ (Nf : Nat) (w : Nat) (Fw : Nat → Nat) (lf0 : Nat → Nat) (C0 : Nat → Int32) (hwn : w ≤ n) (hout : OutI (mtC t n T Lf wo) Lf k (mnC t n ns nl) nl n Fw lf0 C0 w) (hN : w < Nf) (H : Heap) (locs : List Loc) (ls : Array Slot), va_P D vwCl [(p0, .inr (2, [.ref p1, .ref p2, .ref p3, .ref p4, .int (nI cnt)])), (p1, .inl (cI, 25, .inl (nA Fw))), (p2, .inl (cI, 24, .inl (nA lf0))), (p3, .inl (cI, 24, .inl C0)), (p4, .inl (cI, 24, .inl (nA ps))), (m0, .inr (1, [.ref m1, .int (nI n)])), (m1, .inl (cI, 24, .inl (nA t))), (b0, .inr (0, [.ref b1, .ref b2, .int (nI k)])), (b1, .inl (cI, 32, .inl T)), (b2, .inl (cI, 8, .inl (nA Lf)))] H → va_S A sv.heap H locs → lv_has ls 9 [(7, .int (nI w - nI 1)), (6, .int (nI n)), (0, .ref p0), (1, .ref m0), (2, .ref b0), (3, .int wo), (4, .int (nI ns)), (5, .int (nI nl))] → W pg l ev rm_X2_part sv mi ag bl mt cd H locs 0 0 Q (F0 mi 25 ls []) := by
    intro Nf
    induction Nf with
    | zero =>
      intro w Fw lf0 C0 hwn hout hN
      exact absurd hN (Nat.not_lt_zero _)
    | succ Nf ih_25 =>
      intro w Fw lf0 C0 hwn hout hN H locs ls hP hS hl
      refine lv_iload hx hb dX2_part_25 (lv_at hl 0 rfl) ?_
      refine lv_if_lt (tgt := 120) hx hb dX2_part_27 (by decide) (fun c_27 => ?_) (fun c_27 => ?_)
      · obtain rfl := z_p0 (by omega) c_27
        refine lv_aload_n hx hb dX2_part_120 rfl (lv_at hl 2 rfl) ?_
        refine lv_iload hx hb dX2_part_121 (lv_at hl 1 rfl) ?_
        refine z_muV (As := [.int (nI n)]) (rest := []) ⟨hx, hb, hml, hown, hts⟩ (c_X2_listStarts l D cI p0 p1 p2 p3 p4 Fw lf0 C0 ps cnt n (by first | assumption | omega) (fun j hj => hout.2.2.2 j (Nat.zero_le _) hj)) (cwV 1 hts gX2_part_X2_listStarts rfl rfl rfl hd_X2_listStarts ⟨Nat.le_of_ble_eq_true rfl, Nat.le_of_ble_eq_true rfl⟩) ⟨hK, hE⟩ hP hD rfl hS [0, 1, 2, 3, 4] (by decide) rfl (fun _ => rfl) (va_recv hK hP (ci := 2) (q0 := 0) rfl rfl) rfl hl.1 rfl (Nat.le_of_ble_eq_true rfl) dX2_part_123 (Nat.zero_le _) (Nat.zero_le _) (fun v9 u9 H locs hp hP hS => ?_)
        obtain ⟨ps2_123, cnt2_123⟩ := u9
        obtain ⟨rfl, hst_123⟩ := hp
        try dsimp only at hst_123
        have hP : va_P D vwCl [(p0, .inr (2, [.ref p1, .ref p2, .ref p3, .ref p4, .int (nI cnt2_123)])), (p1, .inl (cI, 25, .inl (nA Fw))), (p2, .inl (cI, 24, .inl (nA lf0))), (p3, .inl (cI, 24, .inl C0)), (p4, .inl (cI, 24, .inl (nA ps2_123))), (m0, .inr (1, [.ref m1, .int (nI n)])), (m1, .inl (cI, 24, .inl (nA t))), (b0, .inr (0, [.ref b1, .ref b2, .int (nI k)])), (b1, .inl (cI, 32, .inl T)), (b2, .inl (cI, 8, .inl (nA Lf)))] H := hP
        refine W.eq (g2 := F0 mi 126 ls []) rfl ?_
        exact mu_vret hA hQ hx hb hr hlocks (Fw, lf0, C0, ps2_123, cnt2_123) hP hS ⟨rfl, ⟨hout, hst_123⟩⟩ dX2_part_126
      · obtain ⟨u, rfl⟩ := z_p1 c_27
        rw [z_pred] at hl
        refine lv_aload_n hx hb dX2_part_30 rfl (lv_at hl 2 rfl) ?_
        refine lv_iload hx hb dX2_part_31 (lv_at hl 0 rfl) ?_
        refine z_muV (As := [.int (nI u)]) (rest := []) ⟨hx, hb, hml, hown, hts⟩ (c_X2_takeWord l D cI p0 p1 p2 p3 p4 Fw lf0 C0 ps cnt u (by omega)) (cwV 1 hts gX2_part_X2_takeWord rfl rfl rfl hd_X2_takeWord ⟨Nat.le_of_ble_eq_true rfl, Nat.le_of_ble_eq_true rfl⟩) ⟨hK, hE⟩ hP hD rfl hS [0, 1, 2, 3, 4] (by decide) rfl (fun _ => rfl) (va_recv hK hP (ci := 2) (q0 := 0) rfl rfl) rfl hl.1 rfl (Nat.le_of_ble_eq_true rfl) dX2_part_33 (Nat.zero_le _) (Nat.zero_le _) (fun v9 u9 H locs hp hP hS => ?_)
        obtain rfl := hp
        have hP : va_P D vwCl [(p0, .inr (2, [.ref p1, .ref p2, .ref p3, .ref p4, .int (nI cnt)])), (p1, .inl (cI, 25, .inl (nA (updN Fw u (Fw (u + 1) + 1))))), (p2, .inl (cI, 24, .inl (nA (updN lf0 u 1)))), (p3, .inl (cI, 24, .inl (upd C0 u (-1)))), (p4, .inl (cI, 24, .inl (nA ps))), (m0, .inr (1, [.ref m1, .int (nI n)])), (m1, .inl (cI, 24, .inl (nA t))), (b0, .inr (0, [.ref b1, .ref b2, .int (nI k)])), (b1, .inl (cI, 32, .inl T)), (b2, .inl (cI, 8, .inl (nA Lf)))] H := hP
        refine W.eq (g2 := F0 mi 36 ls []) rfl ?_
        refine lv_iconst (v := nI 0) hx hb dX2_part_36 ci_0 ?_
        refine lv_istore (lv' := [(8, .int (nI 0)), (7, .int (nI u)), (6, .int (nI n)), (0, .ref p0), (1, .ref m0), (2, .ref b0), (3, .int wo), (4, .int (nI ns)), (5, .int (nI nl))]) hx hb dX2_part_37 hl (by decide) rfl (fun ls hl => ?_)
        have lp_39 : ∀ (Nf : Nat) (c : Nat) (f1 : Nat → Nat) (lf1 : Nat → Nat) (C1 : Nat → Int32) (hck : c ≤ k) (hin : InnI (mtC t n T Lf wo) Lf Fw lf0 C0 u c f1 lf1 C1) (hN : k - c < Nf) (H : Heap) (locs : List Loc) (ls : Array Slot), va_P D vwCl [(p0, .inr (2, [.ref p1, .ref p2, .ref p3, .ref p4, .int (nI cnt)])), (p1, .inl (cI, 25, .inl (nA f1))), (p2, .inl (cI, 24, .inl (nA lf1))), (p3, .inl (cI, 24, .inl C1)), (p4, .inl (cI, 24, .inl (nA ps))), (m0, .inr (1, [.ref m1, .int (nI n)])), (m1, .inl (cI, 24, .inl (nA t))), (b0, .inr (0, [.ref b1, .ref b2, .int (nI k)])), (b1, .inl (cI, 32, .inl T)), (b2, .inl (cI, 8, .inl (nA Lf)))] H → va_S A sv.heap H locs → lv_has ls 9 [(8, .int (nI c)), (7, .int (nI u)), (6, .int (nI n)), (0, .ref p0), (1, .ref m0), (2, .ref b0), (3, .int wo), (4, .int (nI ns)), (5, .int (nI nl))] → W pg l ev rm_X2_part sv mi ag bl mt cd H locs 0 0 Q (F0 mi 39 ls []) := by
          intro Nf
          induction Nf with
          | zero =>
            intro c f1 lf1 C1 hck hin hN
            exact absurd hN (Nat.not_lt_zero _)
          | succ Nf ih_39 =>
            intro c f1 lf1 C1 hck hin hN H locs ls hP hS hl
            refine lv_iload hx hb dX2_part_39 (lv_at hl 0 rfl) ?_
            refine lv_aload_n hx hb dX2_part_41 rfl (lv_at hl 5 rfl) ?_
            refine z_roV (As := []) (rest := [.int (nI c)]) ⟨hx, hb, hml, hown, hts⟩ (c_X0_size l D cI b0 b1 b2 k) (cwV 0 hts gX2_part_X0_size rfl rfl rfl hd_X0_size ⟨Nat.le_of_ble_eq_true rfl, Nat.le_of_ble_eq_true rfl⟩) ⟨hK, hE⟩ (hP.sub (ws' := [(b0, .inr (0, [.ref b1, .ref b2, .int (nI k)]))]) [7] rfl) (va_recv hK hP (ci := 0) (q0 := 7) rfl rfl) rfl hl.1 rfl (Nat.le_of_ble_eq_true rfl) dX2_part_42 (Nat.zero_le _) (Nat.zero_le _) ?_
            refine z_icmp_ge (tgt := 86) hx hb dX2_part_45 (by decide) (by omega) (by omega) (fun c_45 => ?_) (fun c_45 => ?_)
            · rw [show c = k by omega] at hin
              refine lv_iload hx hb dX2_part_86 (lv_at hl 8 rfl) ?_
              refine z_if_le (tgt := 114) hx hb dX2_part_88 (by decide) (by omega) (fun c_88 => ?_) (fun c_88 => ?_)
              · refine lv_iinc (v := nI u - nI 1) (lv' := [(7, .int (nI u - nI 1)), (8, .int (nI c)), (6, .int (nI n)), (0, .ref p0), (1, .ref m0), (2, .ref b0), (3, .int wo), (4, .int (nI ns)), (5, .int (nI nl))]) hx hb dX2_part_114 hl (k := 1) rfl (z_decR _) (by decide) rfl (fun ls hl => ?_)
                refine lv_goto (tgt := 25) hx hb dX2_part_117 (by decide) ?_
                exact ih_25 u f1 lf1 C1 (by omega) (by first | exact out_cdo hM (by omega) hout hin (fun q => by have := q.1; omega) | exact out_cdo hM (by omega) hout hin (fun q => c_101 q.2) | exact out_new hM (by omega) hout hin ⟨c_88, c_101⟩ hT_111) (by omega) H locs ls hP hS (lv_sub hl [0, 2, 3, 4, 5, 6, 7, 8] rfl)
              · have hbd := inn_b hM (by omega) hn (Nat.le_refl k) hout hin
                refine lv_aload_n hx hb dX2_part_91 rfl (lv_at hl 4 rfl) ?_
                refine lv_iload hx hb dX2_part_92 (lv_at hl 7 rfl) ?_
                refine lv_iload hx hb dX2_part_94 (lv_at hl 1 rfl) ?_
                refine lv_iload hx hb dX2_part_96 (lv_at hl 8 rfl) ?_
                refine z_roV (As := [.int (nI ns), .int (nI u), .int (nI nl)]) (rest := []) ⟨hx, hb, hml, hown, hts⟩ (c_X1_hasSameWords l D cI m0 m1 t n ns u nl (by first | assumption | omega) (by omega) (by omega) (by first | assumption | omega)) (cwV 3 hts gX2_part_X1_hasSameWords rfl rfl rfl hd_X1_hasSameWords ⟨Nat.le_of_ble_eq_true rfl, Nat.le_of_ble_eq_true rfl⟩) ⟨hK, hE⟩ (hP.sub (ws' := [(m0, .inr (1, [.ref m1, .int (nI n)])), (m1, .inl (cI, 24, .inl (nA t)))]) [5, 6] rfl) (va_recv hK hP (ci := 1) (q0 := 5) rfl rfl) rfl hl.1 rfl (Nat.le_of_ble_eq_true rfl) dX2_part_98 (Nat.zero_le _) (Nat.zero_le _) ?_
                refine z_if_eqP (tgt := 114) hx hb dX2_part_101 (by decide) (fun c_101 => ?_) (fun c_101 => ?_)
                · refine lv_iinc (v := nI u - nI 1) (lv' := [(7, .int (nI u - nI 1)), (8, .int (nI c)), (6, .int (nI n)), (0, .ref p0), (1, .ref m0), (2, .ref b0), (3, .int wo), (4, .int (nI ns)), (5, .int (nI nl))]) hx hb dX2_part_114 hl (k := 1) rfl (z_decR _) (by decide) rfl (fun ls hl => ?_)
                  refine lv_goto (tgt := 25) hx hb dX2_part_117 (by decide) ?_
                  exact ih_25 u f1 lf1 C1 (by omega) (by first | exact out_cdo hM (by omega) hout hin (fun q => by have := q.1; omega) | exact out_cdo hM (by omega) hout hin (fun q => c_101 q.2) | exact out_new hM (by omega) hout hin ⟨c_88, c_101⟩ hT_111) (by omega) H locs ls hP hS (lv_sub hl [0, 2, 3, 4, 5, 6, 7, 8] rfl)
                · refine lv_aload_n hx hb dX2_part_104 rfl (lv_at hl 3 rfl) ?_
                  refine lv_iload hx hb dX2_part_105 (lv_at hl 1 rfl) ?_
                  refine lv_iload hx hb dX2_part_107 (lv_at hl 8 rfl) ?_
                  refine z_bipush (n := 8) hx hb rfl (by decide) dX2_part_109 ?_
                  refine z_muV (As := [.int (nI u), .int (nI nl), .int (nI 8)]) (rest := []) ⟨hx, hb, hml, hown, hts⟩ (c_X2_takeIfBetter l D cI p0 p1 p2 p3 p4 f1 lf1 C1 ps cnt u nl (nI 8) ⟨by omega, by have := c_101.1; omega⟩ hbd.1 hbd.2.1 (hbd.2.2 _ (by omega) c_101.1)) (cwV 3 hts gX2_part_X2_takeIfBetter rfl rfl rfl hd_X2_takeIfBetter ⟨Nat.le_of_ble_eq_true rfl, Nat.le_of_ble_eq_true rfl⟩) ⟨hK, hE⟩ hP hD rfl hS [0, 1, 2, 3, 4] (by decide) rfl (fun _ => rfl) (va_recv hK hP (ci := 2) (q0 := 0) rfl rfl) rfl hl.1 rfl (Nat.le_of_ble_eq_true rfl) dX2_part_111 (Nat.zero_le _) (Nat.zero_le _) (fun v9 u9 H locs hp hP hS => ?_)
                  obtain ⟨f2_111, lf2_111, C2_111⟩ := u9
                  obtain ⟨rfl, hT_111⟩ := hp
                  try dsimp only at hT_111
                  have hP : va_P D vwCl [(p0, .inr (2, [.ref p1, .ref p2, .ref p3, .ref p4, .int (nI cnt)])), (p1, .inl (cI, 25, .inl (nA f2_111))), (p2, .inl (cI, 24, .inl (nA lf2_111))), (p3, .inl (cI, 24, .inl C2_111)), (p4, .inl (cI, 24, .inl (nA ps))), (m0, .inr (1, [.ref m1, .int (nI n)])), (m1, .inl (cI, 24, .inl (nA t))), (b0, .inr (0, [.ref b1, .ref b2, .int (nI k)])), (b1, .inl (cI, 32, .inl T)), (b2, .inl (cI, 8, .inl (nA Lf)))] H := hP
                  refine W.eq (g2 := F0 mi 114 ls []) rfl ?_
                  refine lv_iinc (v := nI u - nI 1) (lv' := [(7, .int (nI u - nI 1)), (8, .int (nI c)), (6, .int (nI n)), (0, .ref p0), (1, .ref m0), (2, .ref b0), (3, .int wo), (4, .int (nI ns)), (5, .int (nI nl))]) hx hb dX2_part_114 hl (k := 1) rfl (z_decR _) (by decide) rfl (fun ls hl => ?_)
                  refine lv_goto (tgt := 25) hx hb dX2_part_117 (by decide) ?_
                  exact ih_25 u f2_111 lf2_111 C2_111 (by omega) (by first | exact out_cdo hM (by omega) hout hin (fun q => by have := q.1; omega) | exact out_cdo hM (by omega) hout hin (fun q => c_101 q.2) | exact out_new hM (by omega) hout hin ⟨c_88, c_101⟩ hT_111) (by omega) H locs ls hP hS (lv_sub hl [0, 2, 3, 4, 5, 6, 7, 8] rfl)
            · refine lv_iload hx hb dX2_part_48 (lv_at hl 0 rfl) ?_
              refine lv_iload_n hx hb dX2_part_50 rfl (lv_at hl 6 rfl) ?_
              refine lv_icmp_eq (tgt := 80) hx hb dX2_part_51 (by decide) (fun c_51 => ?_) (fun c_51 => ?_)
              · refine lv_iinc (v := nI (c + 1)) (lv' := [(8, .int (nI (c + 1))), (7, .int (nI u)), (6, .int (nI n)), (0, .ref p0), (1, .ref m0), (2, .ref b0), (3, .int wo), (4, .int (nI ns)), (5, .int (nI nl))]) hx hb dX2_part_80 hl (k := 0) rfl (z_inc1 _) (by decide) rfl (fun ls hl => ?_)
                refine lv_goto (tgt := 39) hx hb dX2_part_83 (by decide) ?_
                exact ih_39 (c + 1) f1 lf1 C1 (by omega) (by first | exact inn_skip hin (fun q => q.1 c_51) | exact inn_skip hin (fun q => c_63 ⟨q.2.1, q.2.2⟩) | exact inn_take hin ⟨c_51, c_63⟩ (by omega) hT_77) (by omega) H locs ls hP hS (lv_sub hl [0, 1, 2, 3, 4, 5, 6, 7, 8] rfl)
              · have hLc := hL c c_45
                refine lv_aload_n hx hb dX2_part_54 rfl (lv_at hl 4 rfl) ?_
                refine lv_aload_n hx hb dX2_part_55 rfl (lv_at hl 5 rfl) ?_
                refine lv_iload hx hb dX2_part_56 (lv_at hl 0 rfl) ?_
                refine lv_iload hx hb dX2_part_58 (lv_at hl 1 rfl) ?_
                refine z_roV (As := [.ref b0, .int (nI c), .int (nI u)]) (rest := []) ⟨hx, hb, hml, hown, hts⟩ (c_X1_hasWordsOf l D cI m0 m1 b0 b1 b2 t n T Lf k c u (by first | assumption | omega) (by first | assumption | omega) (by first | assumption | omega) (by first | assumption | omega) (by first | assumption | omega)) (cwV 3 hts gX2_part_X1_hasWordsOf rfl rfl rfl hd_X1_hasWordsOf ⟨Nat.le_of_ble_eq_true rfl, Nat.le_of_ble_eq_true rfl⟩) ⟨hK, hE⟩ (hP.sub (ws' := [(m0, .inr (1, [.ref m1, .int (nI n)])), (m1, .inl (cI, 24, .inl (nA t))), (b0, .inr (0, [.ref b1, .ref b2, .int (nI k)])), (b1, .inl (cI, 32, .inl T)), (b2, .inl (cI, 8, .inl (nA Lf)))]) [5, 6, 7, 8, 9] rfl) (va_recv hK hP (ci := 1) (q0 := 5) rfl rfl) rfl hl.1 rfl (Nat.le_of_ble_eq_true rfl) dX2_part_60 (Nat.zero_le _) (Nat.zero_le _) ?_
                refine z_if_eqP (tgt := 80) hx hb dX2_part_63 (by decide) (fun c_63 => ?_) (fun c_63 => ?_)
                · refine lv_iinc (v := nI (c + 1)) (lv' := [(8, .int (nI (c + 1))), (7, .int (nI u)), (6, .int (nI n)), (0, .ref p0), (1, .ref m0), (2, .ref b0), (3, .int wo), (4, .int (nI ns)), (5, .int (nI nl))]) hx hb dX2_part_80 hl (k := 0) rfl (z_inc1 _) (by decide) rfl (fun ls hl => ?_)
                  refine lv_goto (tgt := 39) hx hb dX2_part_83 (by decide) ?_
                  exact ih_39 (c + 1) f1 lf1 C1 (by omega) (by first | exact inn_skip hin (fun q => q.1 c_51) | exact inn_skip hin (fun q => c_63 ⟨q.2.1, q.2.2⟩) | exact inn_take hin ⟨c_51, c_63⟩ (by omega) hT_77) (by omega) H locs ls hP hS (lv_sub hl [0, 1, 2, 3, 4, 5, 6, 7, 8] rfl)
                · have hbd := inn_b hM (by omega) hn (by omega) hout hin
                  refine lv_aload_n hx hb dX2_part_66 rfl (lv_at hl 3 rfl) ?_
                  refine lv_iload hx hb dX2_part_67 (lv_at hl 1 rfl) ?_
                  refine lv_aload_n hx hb dX2_part_69 rfl (lv_at hl 5 rfl) ?_
                  refine lv_iload hx hb dX2_part_70 (lv_at hl 0 rfl) ?_
                  refine z_roV (As := [.int (nI c)]) (rest := [.int (nI u), .ref p0]) ⟨hx, hb, hml, hown, hts⟩ (c_X0_wordsIn l D cI b0 b1 b2 T Lf k c (by first | assumption | omega) (by first | assumption | omega)) (cwV 1 hts gX2_part_X0_wordsIn rfl rfl rfl hd_X0_wordsIn ⟨Nat.le_of_ble_eq_true rfl, Nat.le_of_ble_eq_true rfl⟩) ⟨hK, hE⟩ (hP.sub (ws' := [(b0, .inr (0, [.ref b1, .ref b2, .int (nI k)])), (b1, .inl (cI, 32, .inl T)), (b2, .inl (cI, 8, .inl (nA Lf)))]) [7, 8, 9] rfl) (va_recv hK hP (ci := 0) (q0 := 7) rfl rfl) rfl hl.1 rfl (Nat.le_of_ble_eq_true rfl) dX2_part_72 (Nat.zero_le _) (Nat.zero_le _) ?_
                  refine lv_iload hx hb dX2_part_75 (lv_at hl 0 rfl) ?_
                  refine z_muV (As := [.int (nI u), .int (nI (Lf c)), .int (nI c)]) (rest := []) ⟨hx, hb, hml, hown, hts⟩ (c_X2_takeIfBetter l D cI p0 p1 p2 p3 p4 f1 lf1 C1 ps cnt u (Lf c) (nI c) ⟨by omega, by have := c_63.1; omega⟩ hbd.1 hbd.2.1 (hbd.2.2 _ (by omega) c_63.1)) (cwV 3 hts gX2_part_X2_takeIfBetter rfl rfl rfl hd_X2_takeIfBetter ⟨Nat.le_of_ble_eq_true rfl, Nat.le_of_ble_eq_true rfl⟩) ⟨hK, hE⟩ hP hD rfl hS [0, 1, 2, 3, 4] (by decide) rfl (fun _ => rfl) (va_recv hK hP (ci := 2) (q0 := 0) rfl rfl) rfl hl.1 rfl (Nat.le_of_ble_eq_true rfl) dX2_part_77 (Nat.zero_le _) (Nat.zero_le _) (fun v9 u9 H locs hp hP hS => ?_)
                  obtain ⟨f2_77, lf2_77, C2_77⟩ := u9
                  obtain ⟨rfl, hT_77⟩ := hp
                  try dsimp only at hT_77
                  have hP : va_P D vwCl [(p0, .inr (2, [.ref p1, .ref p2, .ref p3, .ref p4, .int (nI cnt)])), (p1, .inl (cI, 25, .inl (nA f2_77))), (p2, .inl (cI, 24, .inl (nA lf2_77))), (p3, .inl (cI, 24, .inl C2_77)), (p4, .inl (cI, 24, .inl (nA ps))), (m0, .inr (1, [.ref m1, .int (nI n)])), (m1, .inl (cI, 24, .inl (nA t))), (b0, .inr (0, [.ref b1, .ref b2, .int (nI k)])), (b1, .inl (cI, 32, .inl T)), (b2, .inl (cI, 8, .inl (nA Lf)))] H := hP
                  refine W.eq (g2 := F0 mi 80 ls []) rfl ?_
                  refine lv_iinc (v := nI (c + 1)) (lv' := [(8, .int (nI (c + 1))), (7, .int (nI u)), (6, .int (nI n)), (0, .ref p0), (1, .ref m0), (2, .ref b0), (3, .int wo), (4, .int (nI ns)), (5, .int (nI nl))]) hx hb dX2_part_80 hl (k := 0) rfl (z_inc1 _) (by decide) rfl (fun ls hl => ?_)
                  refine lv_goto (tgt := 39) hx hb dX2_part_83 (by decide) ?_
                  exact ih_39 (c + 1) f2_77 lf2_77 C2_77 (by omega) (by first | exact inn_skip hin (fun q => q.1 c_51) | exact inn_skip hin (fun q => c_63 ⟨q.2.1, q.2.2⟩) | exact inn_take hin ⟨c_51, c_63⟩ (by omega) hT_77) (by omega) H locs ls hP hS (lv_sub hl [0, 1, 2, 3, 4, 5, 6, 7, 8] rfl)
        exact lp_39 ((k - 0) + 1) 0 (updN Fw u (Fw (u + 1) + 1)) (updN lf0 u 1) (upd C0 u (-1)) (Nat.zero_le _) inn_0 (Nat.lt_succ_self _) H locs ls hP hS hl
  exact lp_25 ((n) + 1) n (updN f n 0) lf C (Nat.le_refl _) out_0 (Nat.lt_succ_self _) H locs ls hP hS hl
set_option maxHeartbeats 4000000 in
set_option maxRecDepth 100000 in
theorem c_X2_partAsIs (l : Launch) (D : va_G) (cI : ClassId) (p0 : Nat) (p1 : Nat) (p2 : Nat) (p3 : Nat) (p4 : Nat) (m0 : Nat) (m1 : Nat) (b0 : Nat) (b1 : Nat) (b2 : Nat) (f : Nat → Nat) (lf : Nat → Nat) (C : Nat → Int32) (ps : Nat → Nat) (cnt : Nat) (t : Nat → Nat) (n : Nat) (T : Nat → Int32) (Lf : Nat → Nat) (k : Nat) (hn : n ≤ 24) (hk : k ≤ 8) (hL : ∀ c, c < k → 2 ≤ Lf c ∧ Lf c ≤ 4) : MU l yX2_partAsIs wsX2_partAsIs rm_X2_partAsIs D cI [(p0, .inr (2, [.ref p1, .ref p2, .ref p3, .ref p4, .int (nI cnt)])), (p1, .inl (cI, 25, .inl (nA f))), (p2, .inl (cI, 24, .inl (nA lf))), (p3, .inl (cI, 24, .inl C)), (p4, .inl (cI, 24, .inl (nA ps))), (m0, .inr (1, [.ref m1, .int (nI n)])), (m1, .inl (cI, 24, .inl (nA t))), (b0, .inr (0, [.ref b1, .ref b2, .int (nI k)])), (b1, .inl (cI, 32, .inl T)), (b2, .inl (cI, 8, .inl (nA Lf)))] [.ref p0, .ref m0, .ref b0] (fun (v9 : Option Value) (u9 : (Nat → Nat) × (Nat → Nat) × (Nat → Int32) × (Nat → Nat) × Nat) => v9 = none ∧ (PartC t n T Lf k (-1) 0 0 u9.1 u9.2.1 u9.2.2.1 u9.2.2.2.1 u9.2.2.2.2)) (fun (u9 : (Nat → Nat) × (Nat → Nat) × (Nat → Int32) × (Nat → Nat) × Nat) => [(p0, .inr (2, [.ref p1, .ref p2, .ref p3, .ref p4, .int (nI u9.2.2.2.2)])), (p1, .inl (cI, 25, .inl (nA u9.1))), (p2, .inl (cI, 24, .inl (nA u9.2.1))), (p3, .inl (cI, 24, .inl u9.2.2.1)), (p4, .inl (cI, 24, .inl (nA u9.2.2.2.1))), (m0, .inr (1, [.ref m1, .int (nI n)])), (m1, .inl (cI, 24, .inl (nA t))), (b0, .inr (0, [.ref b1, .ref b2, .int (nI k)])), (b1, .inl (cI, 32, .inl T)), (b2, .inl (cI, 8, .inl (nA Lf)))]) := by
  refine mu_of (C := RX2) (cc := cX2_partAsIs) (maxL := 3) (ret := none) rfl (by decide) rfl (Nat.le_of_ble_eq_true rfl) ?_
  intro pg ev sv mi ag bl mt cd ls Q A hA hQ hx hb hr hlocks hml hts hown hK hE hD H locs hP hS hl
  have hD : zDD A [p0, p1, p2, p3, p4, m0, m1, b0, b1, b2] := hD
  have hl : lv_has ls 3 [(0, .ref p0), (1, .ref m0), (2, .ref b0)] := hl
  refine lv_aload_n hx hb dX2_partAsIs_0 rfl (lv_at hl 0 rfl) ?_
  refine lv_aload_n hx hb dX2_partAsIs_1 rfl (lv_at hl 1 rfl) ?_
  refine lv_aload_n hx hb dX2_partAsIs_2 rfl (lv_at hl 2 rfl) ?_
  refine lv_iconst (v := -1) hx hb dX2_partAsIs_3 ci_m1 ?_
  refine lv_iconst (v := nI 0) hx hb dX2_partAsIs_4 ci_0 ?_
  refine lv_iconst (v := nI 0) hx hb dX2_partAsIs_5 ci_0 ?_
  refine z_muV (As := [.ref m0, .ref b0, .int (-1), .int (nI 0), .int (nI 0)]) (rest := []) ⟨hx, hb, hml, hown, hts⟩ (c_X2_part l D cI p0 p1 p2 p3 p4 m0 m1 b0 b1 b2 f lf C ps cnt t n T Lf k (-1) 0 0 (by first | assumption | omega) (by first | assumption | omega) (by first | assumption | omega) (Or.inl rfl)) (cwV 5 hts gX2_partAsIs_X2_part rfl rfl rfl hd_X2_part ⟨Nat.le_of_ble_eq_true rfl, Nat.le_of_ble_eq_true rfl⟩) ⟨hK, hE⟩ hP hD rfl hS [0, 1, 2, 3, 4, 5, 6, 7, 8, 9] (by decide) rfl (fun _ => rfl) (va_recv hK hP (ci := 2) (q0 := 0) rfl rfl) rfl hl.1 rfl (Nat.le_of_ble_eq_true rfl) dX2_partAsIs_6 (Nat.zero_le _) (Nat.zero_le _) (fun v9 u9 H locs hp hP hS => ?_)
  obtain ⟨f2_6, lf2_6, C2_6, ps2_6, cnt2_6⟩ := u9
  obtain ⟨rfl, hpart_6⟩ := hp
  try dsimp only at hpart_6
  have hP : va_P D vwCl [(p0, .inr (2, [.ref p1, .ref p2, .ref p3, .ref p4, .int (nI cnt2_6)])), (p1, .inl (cI, 25, .inl (nA f2_6))), (p2, .inl (cI, 24, .inl (nA lf2_6))), (p3, .inl (cI, 24, .inl C2_6)), (p4, .inl (cI, 24, .inl (nA ps2_6))), (m0, .inr (1, [.ref m1, .int (nI n)])), (m1, .inl (cI, 24, .inl (nA t))), (b0, .inr (0, [.ref b1, .ref b2, .int (nI k)])), (b1, .inl (cI, 32, .inl T)), (b2, .inl (cI, 8, .inl (nA Lf)))] H := hP
  refine W.eq (g2 := F0 mi 9 ls []) rfl ?_
  exact mu_vret hA hQ hx hb hr hlocks (f2_6, lf2_6, C2_6, ps2_6, cnt2_6) hP hS ⟨rfl, hpart_6⟩ dX2_partAsIs_9
