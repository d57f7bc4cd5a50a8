theorem hd_X4_codes : yX4_codes.cls = RX4 ∧ yX4_codes.cls ≠ "java/lang/invoke/MethodHandle" ∧ yX4_codes.cls ≠ "java/lang/invoke/VarHandle" ∧ (parseMethodDescriptor yX4_codes.desc).map (fun d => d.parameters.length) = some 0 := by decide +kernel
theorem hd_X4_words : yX4_words.cls = RX4 ∧ yX4_words.cls ≠ "java/lang/invoke/MethodHandle" ∧ yX4_words.cls ≠ "java/lang/invoke/VarHandle" ∧ (parseMethodDescriptor yX4_words.desc).map (fun d => d.parameters.length) = some 0 := by decide +kernel
theorem hd_X4_groups : yX4_groups.cls = RX4 ∧ yX4_groups.cls ≠ "java/lang/invoke/MethodHandle" ∧ yX4_groups.cls ≠ "java/lang/invoke/VarHandle" ∧ (parseMethodDescriptor yX4_groups.desc).map (fun d => d.parameters.length) = some 0 := by decide +kernel
theorem hd_X4_sentGroups : yX4_sentGroups.cls = RX4 ∧ yX4_sentGroups.cls ≠ "java/lang/invoke/MethodHandle" ∧ yX4_sentGroups.cls ≠ "java/lang/invoke/VarHandle" ∧ (parseMethodDescriptor yX4_sentGroups.desc).map (fun d => d.parameters.length) = some 0 := by decide +kernel
theorem hd_X4_repeats : yX4_repeats.cls = RX4 ∧ yX4_repeats.cls ≠ "java/lang/invoke/MethodHandle" ∧ yX4_repeats.cls ≠ "java/lang/invoke/VarHandle" ∧ (parseMethodDescriptor yX4_repeats.desc).map (fun d => d.parameters.length) = some 0 := by decide +kernel
theorem hd_X4_lost : yX4_lost.cls = RX4 ∧ yX4_lost.cls ≠ "java/lang/invoke/MethodHandle" ∧ yX4_lost.cls ≠ "java/lang/invoke/VarHandle" ∧ (parseMethodDescriptor yX4_lost.desc).map (fun d => d.parameters.length) = some 0 := by decide +kernel
theorem hd_X4_earned : yX4_earned.cls = RX4 ∧ yX4_earned.cls ≠ "java/lang/invoke/MethodHandle" ∧ yX4_earned.cls ≠ "java/lang/invoke/VarHandle" ∧ (parseMethodDescriptor yX4_earned.desc).map (fun d => d.parameters.length) = some 0 := by decide +kernel
theorem hd_X4_counted : yX4_counted.cls = RX4 ∧ yX4_counted.cls ≠ "java/lang/invoke/MethodHandle" ∧ yX4_counted.cls ≠ "java/lang/invoke/VarHandle" ∧ (parseMethodDescriptor yX4_counted.desc).map (fun d => d.parameters.length) = some 0 := by decide +kernel
theorem hd_X4_costOf : yX4_costOf.cls = RX4 ∧ yX4_costOf.cls ≠ "java/lang/invoke/MethodHandle" ∧ yX4_costOf.cls ≠ "java/lang/invoke/VarHandle" ∧ (parseMethodDescriptor yX4_costOf.desc).map (fun d => d.parameters.length) = some 1 := by decide +kernel
theorem hd_X4_cost : yX4_cost.cls = RX4 ∧ yX4_cost.cls ≠ "java/lang/invoke/MethodHandle" ∧ yX4_cost.cls ≠ "java/lang/invoke/VarHandle" ∧ (parseMethodDescriptor yX4_cost.desc).map (fun d => d.parameters.length) = some 0 := by decide +kernel
theorem hd_X4_saved : yX4_saved.cls = RX4 ∧ yX4_saved.cls ≠ "java/lang/invoke/MethodHandle" ∧ yX4_saved.cls ≠ "java/lang/invoke/VarHandle" ∧ (parseMethodDescriptor yX4_saved.desc).map (fun d => d.parameters.length) = some 0 := by decide +kernel
theorem hd_X4_untilGarbled : yX4_untilGarbled.cls = RX4 ∧ yX4_untilGarbled.cls ≠ "java/lang/invoke/MethodHandle" ∧ yX4_untilGarbled.cls ≠ "java/lang/invoke/VarHandle" ∧ (parseMethodDescriptor yX4_untilGarbled.desc).map (fun d => d.parameters.length) = some 0 := by decide +kernel
theorem hd_X4_meanLength : yX4_meanLength.cls = RX4 ∧ yX4_meanLength.cls ≠ "java/lang/invoke/MethodHandle" ∧ yX4_meanLength.cls ≠ "java/lang/invoke/VarHandle" ∧ (parseMethodDescriptor yX4_meanLength.desc).map (fun d => d.parameters.length) = some 0 := by decide +kernel
theorem hd_X4_isType : yX4_isType.cls ≠ "java/lang/invoke/MethodHandle" ∧ yX4_isType.cls ≠ "java/lang/invoke/VarHandle" ∧ (parseMethodDescriptor yX4_isType.desc).map (fun d => d.parameters.length) = some 1 := by decide +kernel
theorem hd_X4_isTypeOrNone : yX4_isTypeOrNone.cls ≠ "java/lang/invoke/MethodHandle" ∧ yX4_isTypeOrNone.cls ≠ "java/lang/invoke/VarHandle" ∧ (parseMethodDescriptor yX4_isTypeOrNone.desc).map (fun d => d.parameters.length) = some 1 := by decide +kernel
abbrev rm_X4_isType : Room := { frames := 0, cells := 0, slots := 0, locals := 0 }
abbrev rm_X4_isTypeOrNone : Room := { frames := 1, cells := 0, slots := 0, locals := 20 }
abbrev rm_X4_codes : Room := { frames := 1, cells := 0, slots := 0, locals := 20 }
abbrev rm_X4_words : Room := { frames := 1, cells := 0, slots := 0, locals := 20 }
abbrev rm_X4_groups : Room := { frames := 1, cells := 0, slots := 0, locals := 20 }
abbrev rm_X4_sentGroups : Room := { frames := 0, cells := 0, slots := 0, locals := 0 }
abbrev rm_X4_repeats : Room := { frames := 0, cells := 0, slots := 0, locals := 0 }
abbrev rm_X4_lost : Room := { frames := 0, cells := 0, slots := 0, locals := 0 }
abbrev rm_X4_earned : Room := { frames := 0, cells := 0, slots := 0, locals := 0 }
abbrev rm_X4_counted : Room := { frames := 3, cells := 0, slots := 0, locals := 64 }
abbrev rm_X4_costOf : Room := { frames := 1, cells := 0, slots := 0, locals := 24 }
abbrev rm_X4_cost : Room := { frames := 4, cells := 0, slots := 0, locals := 87 }
abbrev rm_X4_saved : Room := { frames := 5, cells := 0, slots := 0, locals := 107 }
abbrev rm_X4_untilGarbled : Room := { frames := 1, cells := 0, slots := 0, locals := 21 }
abbrev rm_X4_meanLength : Room := { frames := 2, cells := 0, slots := 0, locals := 42 }
set_option maxHeartbeats 4000000 in
set_option maxRecDepth 100000 in
theorem c_X4_isType (l : Launch) (D : va_G) (cI : ClassId) (x : Int32) : RO l yX4_isType wsX4_isType rm_X4_isType D cI [] [.int x] (.int (z1 (∃ j : Nat, j < 10 ∧ x = nI j))) := by
  refine ro_of (C := RX4) (cc := cX4_isType) (maxL := 1) (ret := (some .boolean)) rfl (by decide) rfl (Nat.le_of_ble_eq_true rfl) ?_
  intro pg ev sv mi ag bl mt cd ls Q hQ hx hb hr hlocks hml hts hown hK hE hP hl
  have hP : va_P D vwCl [] sv.heap := hP
  have hl : lv_has ls 1 [(0, .int x)] := hl
  refine lv_iload_n hx hb dX4_isType_0 rfl (lv_at hl 0 rfl) ?_
  refine lv_if_lt (tgt := 14) hx hb dX4_isType_1 (by decide) (fun c_1 => ?_) (fun c_1 => ?_)
  · refine lv_iconst (v := nI 0) hx hb dX4_isType_14 ci_0 ?_
    exact ro_zret hQ hx hb hr hlocks (z1_0 (by first | exact z_has_g (by decide) c_7 | exact z_has_n (by decide) c_1)) dX4_isType_15
  · refine lv_iload_n hx hb dX4_isType_4 rfl (lv_at hl 0 rfl) ?_
    refine z_bipush (n := 10) hx hb rfl (by decide) dX4_isType_5 ?_
    refine lv_icmp_ge (tgt := 14) hx hb dX4_isType_7 (by decide) (fun c_7 => ?_) (fun c_7 => ?_)
    · refine lv_iconst (v := nI 0) hx hb dX4_isType_14 ci_0 ?_
      exact ro_zret hQ hx hb hr hlocks (z1_0 (by first | exact z_has_g (by decide) c_7 | exact z_has_n (by decide) c_1)) dX4_isType_15
    · refine lv_iconst (v := nI 1) hx hb dX4_isType_10 ci_1 ?_
      refine lv_goto (tgt := 15) hx hb dX4_isType_11 (by decide) ?_
      exact ro_zret hQ hx hb hr hlocks (z1_1 (z_has_t (by decide) c_1 c_7)) dX4_isType_15
set_option maxHeartbeats 4000000 in
set_option maxRecDepth 100000 in
theorem c_X4_isTypeOrNone (l : Launch) (D : va_G) (cI : ClassId) (x : Int32) : RO l yX4_isTypeOrNone wsX4_isTypeOrNone rm_X4_isTypeOrNone D cI [] [.int x] (.int (z1 (x = -1 ∨ ∃ j : Nat, j < 10 ∧ x = nI j))) := by
  refine ro_of (C := RX4) (cc := cX4_isTypeOrNone) (maxL := 1) (ret := (some .boolean)) rfl (by decide) rfl (Nat.le_of_ble_eq_true rfl) ?_
  intro pg ev sv mi ag bl mt cd ls Q hQ hx hb hr hlocks hml hts hown hK hE hP hl
  have hP : va_P D vwCl [] sv.heap := hP
  have hl : lv_has ls 1 [(0, .int x)] := hl
  refine lv_iload_n hx hb dX4_isTypeOrNone_0 rfl (lv_at hl 0 rfl) ?_
  refine lv_iconst (v := -1) hx hb dX4_isTypeOrNone_1 ci_m1 ?_
  refine lv_icmp_eq (tgt := 12) hx hb dX4_isTypeOrNone_2 (by decide) (fun c_2 => ?_) (fun c_2 => ?_)
  · refine lv_iconst (v := nI 1) hx hb dX4_isTypeOrNone_12 ci_1 ?_
    refine lv_goto (tgt := 17) hx hb dX4_isTypeOrNone_13 (by decide) ?_
    exact ro_zret hQ hx hb hr hlocks (z1_1 (by first | exact Or.inl c_2 | exact Or.inr c_9)) dX4_isTypeOrNone_17
  · refine lv_iload_n hx hb dX4_isTypeOrNone_5 rfl (lv_at hl 0 rfl) ?_
    refine z_roS (As := [.int x]) (rest := []) ⟨hx, hb, hml, hown, hts⟩ (c_X4_isType l D cI x) (va_cwS 1 hts gX4_isTypeOrNone_X4_isType rfl rfl rfl hd_X4_isType ⟨Nat.le_of_ble_eq_true rfl, Nat.le_of_ble_eq_true rfl⟩) ⟨hK, hE⟩ (va_P_nil _ _ _) rfl hl.1 rfl (Nat.le_of_ble_eq_true rfl) dX4_isTypeOrNone_6 (Nat.zero_le _) (Nat.zero_le _) ?_
    refine z_if_eqP (tgt := 16) hx hb dX4_isTypeOrNone_9 (by decide) (fun c_9 => ?_) (fun c_9 => ?_)
    · refine lv_iconst (v := nI 0) hx hb dX4_isTypeOrNone_16 ci_0 ?_
      exact ro_zret hQ hx hb hr hlocks (z1_0 (fun q => q.elim c_2 c_9)) dX4_isTypeOrNone_17
    · refine lv_iconst (v := nI 1) hx hb dX4_isTypeOrNone_12 ci_1 ?_
      refine lv_goto (tgt := 17) hx hb dX4_isTypeOrNone_13 (by decide) ?_
      exact ro_zret hQ hx hb hr hlocks (z1_1 (by first | exact Or.inl c_2 | exact Or.inr c_9)) dX4_isTypeOrNone_17
set_option maxHeartbeats 4000000 in
set_option maxRecDepth 100000 in
theorem c_X4_codes (l : Launch) (D : va_G) (cI : ClassId) (h0 : Nat) (b0 : Nat) (m0 : Nat) (p0 : Nat) (s0 : Nat) (q0 : Nat) (q : Nat) (sg : Nat) (rp : Int32) (lo : Int32) (ea : Int32) (b1 : Nat) (b2 : Nat) (k : Nat) : RO l yX4_codes wsX4_codes rm_X4_codes D cI [(h0, .inr (4, [.ref b0, .ref m0, .ref p0, .ref s0, .ref q0, .int (nI q), .int (nI sg), .int rp, .int lo, .int ea])), (b0, .inr (0, [.ref b1, .ref b2, .int (nI k)]))] [.ref h0] (.int (nI k)) := by
  refine ro_of (C := RX4) (cc := cX4_codes) (maxL := 1) (ret := (some .int)) rfl (by decide) rfl (Nat.le_of_ble_eq_true rfl) ?_
  intro pg ev sv mi ag bl mt cd ls Q hQ hx hb hr hlocks hml hts hown hK hE hP hl
  have hP : va_P D vwCl [(h0, .inr (4, [.ref b0, .ref m0, .ref p0, .ref s0, .ref q0, .int (nI q), .int (nI sg), .int rp, .int lo, .int ea])), (b0, .inr (0, [.ref b1, .ref b2, .int (nI k)]))] sv.heap := hP
  have hl : lv_has ls 1 [(0, .ref h0)] := hl
  have f_10 := hts (.fieldLink RX4 10 "TelegraphDesk" "book" "LTelegraphDesk$CodeBook;") (by decide +kernel)
  have hi_4 : ∀ w ∈ wsX40, w ∈ wsX4_codes := by decide +kernel
  refine lv_aload_n hx hb dX4_codes_0 rfl (lv_at hl 0 rfl) ?_
  refine va_get (v := .ref b0) hx hb hts hi_4 hown hK hP 0 rfl rfl 0 (by decide) f_10 (fun _ h => h) rfl dX4_codes_1 ?_
  refine z_roV (As := []) (rest := []) ⟨hx, hb, hml, hown, hts⟩ (c_X0_size l D cI b0 b1 b2 k) (cwV 0 hts gX4_codes_X0_size rfl rfl rfl hd_X0_size ⟨Nat.le_of_ble_eq_true rfl, Nat.le_of_ble_eq_true rfl⟩) ⟨hK, hE⟩ (hP.sub (ws' := [(b0, .inr (0, [.ref b1, .ref b2, .int (nI k)]))]) [1] rfl) (va_recv hK hP (ci := 0) (q0 := 1) rfl rfl) rfl hl.1 rfl (Nat.le_of_ble_eq_true rfl) dX4_codes_4 (Nat.zero_le _) (Nat.zero_le _) ?_
  exact ro_iret hQ hx hb hr hlocks rfl dX4_codes_7
set_option maxHeartbeats 4000000 in
set_option maxRecDepth 100000 in
theorem c_X4_words (l : Launch) (D : va_G) (cI : ClassId) (h0 : Nat) (b0 : Nat) (m0 : Nat) (p0 : Nat) (s0 : Nat) (q0 : Nat) (q : Nat) (sg : Nat) (rp : Int32) (lo : Int32) (ea : Int32) (m1 : Nat) (n : Nat) : RO l yX4_words wsX4_words rm_X4_words D cI [(h0, .inr (4, [.ref b0, .ref m0, .ref p0, .ref s0, .ref q0, .int (nI q), .int (nI sg), .int rp, .int lo, .int ea])), (m0, .inr (1, [.ref m1, .int (nI n)]))] [.ref h0] (.int (nI n)) := by
  refine ro_of (C := RX4) (cc := cX4_words) (maxL := 1) (ret := (some .int)) rfl (by decide) rfl (Nat.le_of_ble_eq_true rfl) ?_
  intro pg ev sv mi ag bl mt cd ls Q hQ hx hb hr hlocks hml hts hown hK hE hP hl
  have hP : va_P D vwCl [(h0, .inr (4, [.ref b0, .ref m0, .ref p0, .ref s0, .ref q0, .int (nI q), .int (nI sg), .int rp, .int lo, .int ea])), (m0, .inr (1, [.ref m1, .int (nI n)]))] sv.heap := hP
  have hl : lv_has ls 1 [(0, .ref h0)] := hl
  have f_19 := hts (.fieldLink RX4 19 "TelegraphDesk" "message" "LTelegraphDesk$Message;") (by decide +kernel)
  have hi_4 : ∀ w ∈ wsX40, w ∈ wsX4_words := by decide +kernel
  refine lv_aload_n hx hb dX4_words_0 rfl (lv_at hl 0 rfl) ?_
  refine va_get (v := .ref m0) hx hb hts hi_4 hown hK hP 0 rfl rfl 1 (by decide) f_19 (fun _ h => h) rfl dX4_words_1 ?_
  refine z_roV (As := []) (rest := []) ⟨hx, hb, hml, hown, hts⟩ (c_X1_size l D cI m0 m1 n) (cwV 0 hts gX4_words_X1_size rfl rfl rfl hd_X1_size ⟨Nat.le_of_ble_eq_true rfl, Nat.le_of_ble_eq_true rfl⟩) ⟨hK, hE⟩ (hP.sub (ws' := [(m0, .inr (1, [.ref m1, .int (nI n)]))]) [1] rfl) (va_recv hK hP (ci := 1) (q0 := 1) rfl rfl) rfl hl.1 rfl (Nat.le_of_ble_eq_true rfl) dX4_words_4 (Nat.zero_le _) (Nat.zero_le _) ?_
  exact ro_iret hQ hx hb hr hlocks rfl dX4_words_7
set_option maxHeartbeats 4000000 in
set_option maxRecDepth 100000 in
theorem c_X4_groups (l : Launch) (D : va_G) (cI : ClassId) (h0 : Nat) (b0 : Nat) (m0 : Nat) (p0 : Nat) (s0 : Nat) (q0 : Nat) (q : Nat) (sg : Nat) (rp : Int32) (lo : Int32) (ea : Int32) (p1 : Nat) (p2 : Nat) (p3 : Nat) (p4 : Nat) (cnt : Nat) : RO l yX4_groups wsX4_groups rm_X4_groups D cI [(h0, .inr (4, [.ref b0, .ref m0, .ref p0, .ref s0, .ref q0, .int (nI q), .int (nI sg), .int rp, .int lo, .int ea])), (p0, .inr (2, [.ref p1, .ref p2, .ref p3, .ref p4, .int (nI cnt)]))] [.ref h0] (.int (nI cnt)) := by
  refine ro_of (C := RX4) (cc := cX4_groups) (maxL := 1) (ret := (some .int)) rfl (by decide) rfl (Nat.le_of_ble_eq_true rfl) ?_
  intro pg ev sv mi ag bl mt cd ls Q hQ hx hb hr hlocks hml hts hown hK hE hP hl
  have hP : va_P D vwCl [(h0, .inr (4, [.ref b0, .ref m0, .ref p0, .ref s0, .ref q0, .int (nI q), .int (nI sg), .int rp, .int lo, .int ea])), (p0, .inr (2, [.ref p1, .ref p2, .ref p3, .ref p4, .int (nI cnt)]))] sv.heap := hP
  have hl : lv_has ls 1 [(0, .ref h0)] := hl
  have f_26 := hts (.fieldLink RX4 26 "TelegraphDesk" "parting" "LTelegraphDesk$Parting;") (by decide +kernel)
  have hi_4 : ∀ w ∈ wsX40, w ∈ wsX4_groups := by decide +kernel
  refine lv_aload_n hx hb dX4_groups_0 rfl (lv_at hl 0 rfl) ?_
  refine va_get (v := .ref p0) hx hb hts hi_4 hown hK hP 0 rfl rfl 2 (by decide) f_26 (fun _ h => h) rfl dX4_groups_1 ?_
  refine z_roV (As := []) (rest := []) ⟨hx, hb, hml, hown, hts⟩ (c_X2_size l D cI p0 p1 p2 p3 p4 cnt) (cwV 0 hts gX4_groups_X2_size rfl rfl rfl hd_X2_size ⟨Nat.le_of_ble_eq_true rfl, Nat.le_of_ble_eq_true rfl⟩) ⟨hK, hE⟩ (hP.sub (ws' := [(p0, .inr (2, [.ref p1, .ref p2, .ref p3, .ref p4, .int (nI cnt)]))]) [1] rfl) (va_recv hK hP (ci := 2) (q0 := 1) rfl rfl) rfl hl.1 rfl (Nat.le_of_ble_eq_true rfl) dX4_groups_4 (Nat.zero_le _) (Nat.zero_le _) ?_
  exact ro_iret hQ hx hb hr hlocks rfl dX4_groups_7
set_option maxHeartbeats 4000000 in
set_option maxRecDepth 100000 in
theorem c_X4_sentGroups (l : Launch) (D : va_G) (cI : ClassId) (h0 : Nat) (b0 : Nat) (m0 : Nat) (p0 : Nat) (s0 : Nat) (q0 : Nat) (q : Nat) (sg : Nat) (rp : Int32) (lo : Int32) (ea : Int32) : RO l yX4_sentGroups wsX4_sentGroups rm_X4_sentGroups D cI [(h0, .inr (4, [.ref b0, .ref m0, .ref p0, .ref s0, .ref q0, .int (nI q), .int (nI sg), .int rp, .int lo, .int ea]))] [.ref h0] (.int (nI sg)) := by
  refine ro_of (C := RX4) (cc := cX4_sentGroups) (maxL := 1) (ret := (some .int)) rfl (by decide) rfl (Nat.le_of_ble_eq_true rfl) ?_
  intro pg ev sv mi ag bl mt cd ls Q hQ hx hb hr hlocks hml hts hown hK hE hP hl
  have hP : va_P D vwCl [(h0, .inr (4, [.ref b0, .ref m0, .ref p0, .ref s0, .ref q0, .int (nI q), .int (nI sg), .int rp, .int lo, .int ea]))] sv.heap := hP
  have hl : lv_has ls 1 [(0, .ref h0)] := hl
  have f_159 := hts (.fieldLink RX4 159 "TelegraphDesk" "sentGroups" "I") (by decide +kernel)
  have hi_4 : ∀ w ∈ wsX40, w ∈ wsX4_sentGroups := by decide +kernel
  refine lv_aload_n hx hb dX4_sentGroups_0 rfl (lv_at hl 0 rfl) ?_
  refine va_get (v := .int (nI sg)) hx hb hts hi_4 hown hK hP 0 rfl rfl 6 (by decide) f_159 (fun _ h => h) rfl dX4_sentGroups_1 ?_
  exact ro_iret hQ hx hb hr hlocks rfl dX4_sentGroups_4
set_option maxHeartbeats 4000000 in
set_option maxRecDepth 100000 in
theorem c_X4_repeats (l : Launch) (D : va_G) (cI : ClassId) (h0 : Nat) (b0 : Nat) (m0 : Nat) (p0 : Nat) (s0 : Nat) (q0 : Nat) (q : Nat) (sg : Nat) (rp : Int32) (lo : Int32) (ea : Int32) : RO l yX4_repeats wsX4_repeats rm_X4_repeats D cI [(h0, .inr (4, [.ref b0, .ref m0, .ref p0, .ref s0, .ref q0, .int (nI q), .int (nI sg), .int rp, .int lo, .int ea]))] [.ref h0] (.int rp) := by
  refine ro_of (C := RX4) (cc := cX4_repeats) (maxL := 1) (ret := (some .int)) rfl (by decide) rfl (Nat.le_of_ble_eq_true rfl) ?_
  intro pg ev sv mi ag bl mt cd ls Q hQ hx hb hr hlocks hml hts hown hK hE hP hl
  have hP : va_P D vwCl [(h0, .inr (4, [.ref b0, .ref m0, .ref p0, .ref s0, .ref q0, .int (nI q), .int (nI sg), .int rp, .int lo, .int ea]))] sv.heap := hP
  have hl : lv_has ls 1 [(0, .ref h0)] := hl
  have f_169 := hts (.fieldLink RX4 169 "TelegraphDesk" "repeats" "I") (by decide +kernel)
  have hi_4 : ∀ w ∈ wsX40, w ∈ wsX4_repeats := by decide +kernel
  refine lv_aload_n hx hb dX4_repeats_0 rfl (lv_at hl 0 rfl) ?_
  refine va_get (v := .int rp) hx hb hts hi_4 hown hK hP 0 rfl rfl 7 (by decide) f_169 (fun _ h => h) rfl dX4_repeats_1 ?_
  exact ro_iret hQ hx hb hr hlocks rfl dX4_repeats_4
set_option maxHeartbeats 4000000 in
set_option maxRecDepth 100000 in
theorem c_X4_lost (l : Launch) (D : va_G) (cI : ClassId) (h0 : Nat) (b0 : Nat) (m0 : Nat) (p0 : Nat) (s0 : Nat) (q0 : Nat) (q : Nat) (sg : Nat) (rp : Int32) (lo : Int32) (ea : Int32) : RO l yX4_lost wsX4_lost rm_X4_lost D cI [(h0, .inr (4, [.ref b0, .ref m0, .ref p0, .ref s0, .ref q0, .int (nI q), .int (nI sg), .int rp, .int lo, .int ea]))] [.ref h0] (.int lo) := by
  refine ro_of (C := RX4) (cc := cX4_lost) (maxL := 1) (ret := (some .int)) rfl (by decide) rfl (Nat.le_of_ble_eq_true rfl) ?_
  intro pg ev sv mi ag bl mt cd ls Q hQ hx hb hr hlocks hml hts hown hK hE hP hl
  have hP : va_P D vwCl [(h0, .inr (4, [.ref b0, .ref m0, .ref p0, .ref s0, .ref q0, .int (nI q), .int (nI sg), .int rp, .int lo, .int ea]))] sv.heap := hP
  have hl : lv_has ls 1 [(0, .ref h0)] := hl
  have f_175 := hts (.fieldLink RX4 175 "TelegraphDesk" "lost" "I") (by decide +kernel)
  have hi_4 : ∀ w ∈ wsX40, w ∈ wsX4_lost := by decide +kernel
  refine lv_aload_n hx hb dX4_lost_0 rfl (lv_at hl 0 rfl) ?_
  refine va_get (v := .int lo) hx hb hts hi_4 hown hK hP 0 rfl rfl 8 (by decide) f_175 (fun _ h => h) rfl dX4_lost_1 ?_
  exact ro_iret hQ hx hb hr hlocks rfl dX4_lost_4
set_option maxHeartbeats 4000000 in
set_option maxRecDepth 100000 in
theorem c_X4_earned (l : Launch) (D : va_G) (cI : ClassId) (h0 : Nat) (b0 : Nat) (m0 : Nat) (p0 : Nat) (s0 : Nat) (q0 : Nat) (q : Nat) (sg : Nat) (rp : Int32) (lo : Int32) (ea : Int32) : RO l yX4_earned wsX4_earned rm_X4_earned D cI [(h0, .inr (4, [.ref b0, .ref m0, .ref p0, .ref s0, .ref q0, .int (nI q), .int (nI sg), .int rp, .int lo, .int ea]))] [.ref h0] (.int ea) := by
  refine ro_of (C := RX4) (cc := cX4_earned) (maxL := 1) (ret := (some .int)) rfl (by decide) rfl (Nat.le_of_ble_eq_true rfl) ?_
  intro pg ev sv mi ag bl mt cd ls Q hQ hx hb hr hlocks hml hts hown hK hE hP hl
  have hP : va_P D vwCl [(h0, .inr (4, [.ref b0, .ref m0, .ref p0, .ref s0, .ref q0, .int (nI q), .int (nI sg), .int rp, .int lo, .int ea]))] sv.heap := hP
  have hl : lv_has ls 1 [(0, .ref h0)] := hl
  have f_156 := hts (.fieldLink RX4 156 "TelegraphDesk" "earned" "I") (by decide +kernel)
  have hi_4 : ∀ w ∈ wsX40, w ∈ wsX4_earned := by decide +kernel
  refine lv_aload_n hx hb dX4_earned_0 rfl (lv_at hl 0 rfl) ?_
  refine va_get (v := .int ea) hx hb hts hi_4 hown hK hP 0 rfl rfl 9 (by decide) f_156 (fun _ h => h) rfl dX4_earned_1 ?_
  exact ro_iret hQ hx hb hr hlocks rfl dX4_earned_4
set_option maxHeartbeats 4000000 in
set_option maxRecDepth 100000 in
theorem c_X4_counted (l : Launch) (D : va_G) (cI : ClassId) (h0 : Nat) (b0 : Nat) (m0 : Nat) (p0 : Nat) (s0 : Nat) (q0 : Nat) (q : Nat) (sg : Nat) (rp : Int32) (lo : Int32) (ea : Int32) (p1 : Nat) (p2 : Nat) (p3 : Nat) (p4 : Nat) (f : Nat → Nat) (lf : Nat → Nat) (C : Nat → Int32) (ps : Nat → Nat) (cnt : Nat) (m1 : Nat) (t : Nat → Nat) (n : Nat) (hn : n ≤ 24) (ht : ∀ j, j < n → t j < 10) (hcnt : cnt ≤ 24) (hst : ∀ g, g < cnt → ps g < n) : RO l yX4_counted wsX4_counted rm_X4_counted D cI [(h0, .inr (4, [.ref b0, .ref m0, .ref p0, .ref s0, .ref q0, .int (nI q), .int (nI sg), .int rp, .int lo, .int ea])), (p0, .inr (2, [.ref p1, .ref p2, .ref p3, .ref p4, .int (nI cnt)])), (p1, .inl (cI, 25, .inl (nA f))), (p2, .inl (cI, 24, .inl (nA lf))), (p3, .inl (cI, 24, .inl C)), (p4, .inl (cI, 24, .inl (nA ps))), (m0, .inr (1, [.ref m1, .int (nI n)])), (m1, .inl (cI, 24, .inl (nA t)))] [.ref h0] (.int (nI (sN (ctW C ps t) cnt))) := by
  refine ro_of (C := RX4) (cc := cX4_counted) (maxL := 4) (ret := (some .int)) rfl (by decide) rfl (Nat.le_of_ble_eq_true rfl) ?_
  intro pg ev sv mi ag bl mt cd ls Q hQ hx hb hr hlocks hml hts hown hK hE hP hl
  have hP : va_P D vwCl [(h0, .inr (4, [.ref b0, .ref m0, .ref p0, .ref s0, .ref q0, .int (nI q), .int (nI sg), .int rp, .int lo, .int ea])), (p0, .inr (2, [.ref p1, .ref p2, .ref p3, .ref p4, .int (nI cnt)])), (p1, .inl (cI, 25, .inl (nA f))), (p2, .inl (cI, 24, .inl (nA lf))), (p3, .inl (cI, 24, .inl C)), (p4, .inl (cI, 24, .inl (nA ps))), (m0, .inr (1, [.ref m1, .int (nI n)])), (m1, .inl (cI, 24, .inl (nA t)))] sv.heap := hP
  have hl : lv_has ls 4 [(0, .ref h0)] := hl
  have f_26 := hts (.fieldLink RX4 26 "TelegraphDesk" "parting" "LTelegraphDesk$Parting;") (by decide +kernel)
  have f_19 := hts (.fieldLink RX4 19 "TelegraphDesk" "message" "LTelegraphDesk$Message;") (by decide +kernel)
  have hi_4 : ∀ w ∈ wsX40, w ∈ wsX4_counted := by decide +kernel
  refine lv_iconst (v := nI 0) hx hb dX4_counted_0 ci_0 ?_
  refine lv_istore_n (lv' := [(1, .int (nI 0)), (0, .ref h0)]) hx hb dX4_counted_1 rfl hl (by decide) rfl (fun ls hl => ?_)
  refine lv_iconst (v := nI 0) hx hb dX4_counted_2 ci_0 ?_
  refine lv_istore_n (lv' := [(2, .int (nI 0)), (1, .int (nI 0)), (0, .ref h0)]) hx hb dX4_counted_3 rfl hl (by decide) rfl (fun ls hl => ?_)
  have lp_4 : ∀ (Nf : Nat) (i : Nat) (ac : Nat) (hi : i ≤ cnt) (hac : ac = sN (ctW C ps t) i) (hN : cnt - i < Nf) (ls : Array Slot), lv_has ls 4 [(2, .int (nI i)), (1, .int (nI ac)), (0, .ref h0)] → W pg l ev rm_X4_counted sv mi ag bl mt cd sv.heap [] 0 0 Q (F0 mi 4 ls []) := by
    intro Nf
    induction Nf with
    | zero =>
      intro i ac hi hac hN
      exact absurd hN (Nat.not_lt_zero _)
    | succ Nf ih_4 =>
      intro i ac hi hac hN ls hl
      refine lv_iload_n hx hb dX4_counted_4 rfl (lv_at hl 0 rfl) ?_
      refine lv_aload_n hx hb dX4_counted_5 rfl (lv_at hl 2 rfl) ?_
      refine va_get (v := .ref p0) hx hb hts hi_4 hown hK hP 0 rfl rfl 2 (by decide) f_26 (fun _ h => h) rfl dX4_counted_6 ?_
      refine z_roV (As := []) (rest := [.int (nI i)]) ⟨hx, hb, hml, hown, hts⟩ (c_X2_size l D cI p0 p1 p2 p3 p4 cnt) (cwV 0 hts gX4_counted_X2_size rfl rfl rfl hd_X2_size ⟨Nat.le_of_ble_eq_true rfl, Nat.le_of_ble_eq_true rfl⟩) ⟨hK, hE⟩ (hP.sub (ws' := [(p0, .inr (2, [.ref p1, .ref p2, .ref p3, .ref p4, .int (nI cnt)]))]) [1] rfl) (va_recv hK hP (ci := 2) (q0 := 1) rfl rfl) rfl hl.1 rfl (Nat.le_of_ble_eq_true rfl) dX4_counted_9 (Nat.zero_le _) (Nat.zero_le _) ?_
      refine z_icmp_ge (tgt := 65) hx hb dX4_counted_12 (by decide) (by omega) (by omega) (fun c_12 => ?_) (fun c_12 => ?_)
      · refine lv_iload_n hx hb dX4_counted_65 rfl (lv_at hl 1 rfl) ?_
        exact ro_iret hQ hx hb hr hlocks (by rw [hac, show i = cnt by omega]) dX4_counted_66
      · have h2 := hst i c_12
        refine lv_aload_n hx hb dX4_counted_15 rfl (lv_at hl 2 rfl) ?_
        refine va_get (v := .ref p0) hx hb hts hi_4 hown hK hP 0 rfl rfl 2 (by decide) f_26 (fun _ h => h) rfl dX4_counted_16 ?_
        refine lv_iload_n hx hb dX4_counted_19 rfl (lv_at hl 0 rfl) ?_
        refine z_roV (As := [.int (nI i)]) (rest := []) ⟨hx, hb, hml, hown, hts⟩ (c_X2_codeAt l D cI p0 p1 p2 p3 p4 f lf C ps cnt i (by first | assumption | omega) (by first | assumption | omega) (fun j hj => by have := hst j hj; omega)) (cwV 1 hts gX4_counted_X2_codeAt rfl rfl rfl hd_X2_codeAt ⟨Nat.le_of_ble_eq_true rfl, Nat.le_of_ble_eq_true rfl⟩) ⟨hK, hE⟩ (hP.sub (ws' := [(p0, .inr (2, [.ref p1, .ref p2, .ref p3, .ref p4, .int (nI cnt)])), (p1, .inl (cI, 25, .inl (nA f))), (p2, .inl (cI, 24, .inl (nA lf))), (p3, .inl (cI, 24, .inl C)), (p4, .inl (cI, 24, .inl (nA ps)))]) [1, 2, 3, 4, 5] rfl) (va_recv hK hP (ci := 2) (q0 := 1) rfl rfl) rfl hl.1 rfl (Nat.le_of_ble_eq_true rfl) dX4_counted_20 (Nat.zero_le _) (Nat.zero_le _) ?_
        refine lv_iconst (v := -1) hx hb dX4_counted_23 ci_m1 ?_
        refine lv_icmp_ne (tgt := 31) hx hb dX4_counted_24 (by decide) (fun c_24 => ?_) (fun c_24 => ?_)
        · refine lv_iconst (v := nI 0) hx hb dX4_counted_31 ci_0 ?_
          refine lv_istore_n (lv' := [(3, .int (nI 0)), (2, .int (nI i)), (1, .int (nI ac)), (0, .ref h0)]) hx hb dX4_counted_32 rfl hl (by decide) rfl (fun ls hl => ?_)
          refine lv_iload_n hx hb dX4_counted_33 rfl (lv_at hl 2 rfl) ?_
          refine lv_iload_n hx hb dX4_counted_34 rfl (lv_at hl 0 rfl) ?_
          refine z_if_eq (tgt := 56) hx hb dX4_counted_35 (by decide) (by omega) (fun c_35 => ?_) (fun c_35 => ?_)
          · refine lv_iconst (v := nI 1) hx hb dX4_counted_56 ci_1 ?_
            refine z_iadd hx hb dX4_counted_57 ?_
            refine lv_istore_n (lv' := [(1, .int (nI (ac + 1))), (3, .int (nI 0)), (2, .int (nI i)), (0, .ref h0)]) hx hb dX4_counted_58 rfl hl (by decide) rfl (fun ls hl => ?_)
            refine lv_iinc (v := nI (i + 1)) (lv' := [(2, .int (nI (i + 1))), (1, .int (nI (ac + 1))), (3, .int (nI 0)), (0, .ref h0)]) hx hb dX4_counted_59 hl (k := 2) rfl (z_inc1 _) (by decide) rfl (fun ls hl => ?_)
            refine lv_goto (tgt := 4) hx hb dX4_counted_62 (by decide) ?_
            exact ih_4 (i + 1) (ac + 1) (by omega) (by first | (have h9 : ctW C ps t i = wc (t (ps i)) := zif_t c_24; show ac + wc (t (ps i)) = sN (ctW C ps t) i + ctW C ps t i; omega) | (have h9 : ctW C ps t i = 1 := zif_f c_24; show ac + 1 = sN (ctW C ps t) i + ctW C ps t i; omega)) (by omega) ls (lv_sub hl [0, 1, 3] rfl)
          · exact absurd c_35 (by decide)
        · refine lv_iconst (v := nI 1) hx hb dX4_counted_27 ci_1 ?_
          refine lv_goto (tgt := 32) hx hb dX4_counted_28 (by decide) ?_
          refine lv_istore_n (lv' := [(3, .int (nI 1)), (2, .int (nI i)), (1, .int (nI ac)), (0, .ref h0)]) hx hb dX4_counted_32 rfl hl (by decide) rfl (fun ls hl => ?_)
          refine lv_iload_n hx hb dX4_counted_33 rfl (lv_at hl 2 rfl) ?_
          refine lv_iload_n hx hb dX4_counted_34 rfl (lv_at hl 0 rfl) ?_
          refine z_if_eq (tgt := 56) hx hb dX4_counted_35 (by decide) (by omega) (fun c_35 => ?_) (fun c_35 => ?_)
          · exact absurd c_35 (by decide)
          · refine lv_aload_n hx hb dX4_counted_38 rfl (lv_at hl 3 rfl) ?_
            refine va_get (v := .ref m0) hx hb hts hi_4 hown hK hP 0 rfl rfl 1 (by decide) f_19 (fun _ h => h) rfl dX4_counted_39 ?_
            refine lv_aload_n hx hb dX4_counted_42 rfl (lv_at hl 3 rfl) ?_
            refine va_get (v := .ref p0) hx hb hts hi_4 hown hK hP 0 rfl rfl 2 (by decide) f_26 (fun _ h => h) rfl dX4_counted_43 ?_
            refine lv_iload_n hx hb dX4_counted_46 rfl (lv_at hl 1 rfl) ?_
            refine z_roV (As := [.int (nI i)]) (rest := [.ref m0, .int (nI ac)]) ⟨hx, hb, hml, hown, hts⟩ (c_X2_startAt l D cI p0 p1 p2 p3 p4 f lf C ps cnt i (by first | assumption | omega) (by first | assumption | omega)) (cwV 1 hts gX4_counted_X2_startAt rfl rfl rfl hd_X2_startAt ⟨Nat.le_of_ble_eq_true rfl, Nat.le_of_ble_eq_true rfl⟩) ⟨hK, hE⟩ (hP.sub (ws' := [(p0, .inr (2, [.ref p1, .ref p2, .ref p3, .ref p4, .int (nI cnt)])), (p1, .inl (cI, 25, .inl (nA f))), (p2, .inl (cI, 24, .inl (nA lf))), (p3, .inl (cI, 24, .inl C)), (p4, .inl (cI, 24, .inl (nA ps)))]) [1, 2, 3, 4, 5] rfl) (va_recv hK hP (ci := 2) (q0 := 1) rfl rfl) rfl hl.1 rfl (Nat.le_of_ble_eq_true rfl) dX4_counted_47 (Nat.zero_le _) (Nat.zero_le _) ?_
            refine z_roV (As := [.int (nI (ps i))]) (rest := [.int (nI ac)]) ⟨hx, hb, hml, hown, hts⟩ (c_X1_countOf l D cI m0 m1 t n (ps i) (by first | assumption | omega) (by first | assumption | omega) (by first | assumption | omega)) (cwV 1 hts gX4_counted_X1_countOf rfl rfl rfl hd_X1_countOf ⟨Nat.le_of_ble_eq_true rfl, Nat.le_of_ble_eq_true rfl⟩) ⟨hK, hE⟩ (hP.sub (ws' := [(m0, .inr (1, [.ref m1, .int (nI n)])), (m1, .inl (cI, 24, .inl (nA t)))]) [6, 7] rfl) (va_recv hK hP (ci := 1) (q0 := 6) rfl rfl) rfl hl.1 rfl (Nat.le_of_ble_eq_true rfl) dX4_counted_50 (Nat.zero_le _) (Nat.zero_le _) ?_
            refine lv_goto (tgt := 57) hx hb dX4_counted_53 (by decide) ?_
            refine z_iadd hx hb dX4_counted_57 ?_
            refine lv_istore_n (lv' := [(1, .int (nI (ac + (wc (t (ps i)))))), (3, .int (nI 1)), (2, .int (nI i)), (0, .ref h0)]) hx hb dX4_counted_58 rfl hl (by decide) rfl (fun ls hl => ?_)
            refine lv_iinc (v := nI (i + 1)) (lv' := [(2, .int (nI (i + 1))), (1, .int (nI (ac + (wc (t (ps i)))))), (3, .int (nI 1)), (0, .ref h0)]) hx hb dX4_counted_59 hl (k := 2) rfl (z_inc1 _) (by decide) rfl (fun ls hl => ?_)
            refine lv_goto (tgt := 4) hx hb dX4_counted_62 (by decide) ?_
            exact ih_4 (i + 1) (ac + (wc (t (ps i)))) (by omega) (by first | (have h9 : ctW C ps t i = wc (t (ps i)) := zif_t c_24; show ac + wc (t (ps i)) = sN (ctW C ps t) i + ctW C ps t i; omega) | (have h9 : ctW C ps t i = 1 := zif_f c_24; show ac + 1 = sN (ctW C ps t) i + ctW C ps t i; omega)) (by omega) ls (lv_sub hl [0, 1, 3] rfl)
  exact lp_4 ((cnt - 0) + 1) 0 0 (Nat.zero_le _) rfl (Nat.lt_succ_self _) ls hl
set_option maxHeartbeats 4000000 in
set_option maxRecDepth 100000 in
theorem c_X4_costOf (l : Launch) (D : va_G) (cI : ClassId) (h0 : Nat) (b0 : Nat) (m0 : Nat) (p0 : Nat) (s0 : Nat) (q0 : Nat) (q : Nat) (sg : Nat) (rp : Int32) (lo : Int32) (ea : Int32) (m1 : Nat) (n : Nat) (x : Nat) (hn : n ≤ 24) (hx : x ≤ 1000) : RO l yX4_costOf wsX4_costOf rm_X4_costOf D cI [(h0, .inr (4, [.ref b0, .ref m0, .ref p0, .ref s0, .ref q0, .int (nI q), .int (nI sg), .int rp, .int lo, .int ea])), (m0, .inr (1, [.ref m1, .int (nI n)]))] [.ref h0, .int (nI x)] (.int (nI (costN n x))) := by
  refine ro_of (C := RX4) (cc := cX4_costOf) (maxL := 2) (ret := (some .int)) rfl (by decide) rfl (Nat.le_of_ble_eq_true rfl) ?_
  intro pg ev sv mi ag bl mt cd ls Q hQ hx hb hr hlocks hml hts hown hK hE hP hl
  have hP : va_P D vwCl [(h0, .inr (4, [.ref b0, .ref m0, .ref p0, .ref s0, .ref q0, .int (nI q), .int (nI sg), .int rp, .int lo, .int ea])), (m0, .inr (1, [.ref m1, .int (nI n)]))] sv.heap := hP
  have hl : lv_has ls 2 [(0, .ref h0), (1, .int (nI x))] := hl
  have f_19 := hts (.fieldLink RX4 19 "TelegraphDesk" "message" "LTelegraphDesk$Message;") (by decide +kernel)
  have hi_4 : ∀ w ∈ wsX40, w ∈ wsX4_costOf := by decide +kernel
  refine lv_aload_n hx hb dX4_costOf_0 rfl (lv_at hl 0 rfl) ?_
  refine va_get (v := .ref m0) hx hb hts hi_4 hown hK hP 0 rfl rfl 1 (by decide) f_19 (fun _ h => h) rfl dX4_costOf_1 ?_
  refine z_roV (As := []) (rest := []) ⟨hx, hb, hml, hown, hts⟩ (c_X1_size l D cI m0 m1 n) (cwV 0 hts gX4_costOf_X1_size rfl rfl rfl hd_X1_size ⟨Nat.le_of_ble_eq_true rfl, Nat.le_of_ble_eq_true rfl⟩) ⟨hK, hE⟩ (hP.sub (ws' := [(m0, .inr (1, [.ref m1, .int (nI n)]))]) [1] rfl) (va_recv hK hP (ci := 1) (q0 := 1) rfl rfl) rfl hl.1 rfl (Nat.le_of_ble_eq_true rfl) dX4_costOf_4 (Nat.zero_le _) (Nat.zero_le _) ?_
  refine z_if_ne (tgt := 12) hx hb dX4_costOf_7 (by decide) (by omega) (fun c_7 => ?_) (fun c_7 => ?_)
  · refine z_bipush (n := 20) hx hb rfl (by decide) dX4_costOf_12 ?_
    refine lv_iconst (v := nI 3) hx hb dX4_costOf_14 ci_3 ?_
    refine lv_iconst (v := nI 0) hx hb dX4_costOf_15 ci_0 ?_
    refine lv_iload_n hx hb dX4_costOf_16 rfl (lv_at hl 1 rfl) ?_
    refine z_bipush (n := 10) hx hb rfl (by decide) dX4_costOf_17 ?_
    refine lv_isub hx hb dX4_costOf_19 ?_
    refine va_mmax hx hb (by rw [hml]; exact hl.1.symm) hown (hts (.methodLink RX4 254 Lib.Math.max.name) (by decide +kernel)) (hts (.static Lib.Math.max.name) (by decide +kernel)) (hts (.initialized "java/lang/Math") (by decide +kernel)) (hts (.code Lib.Math.max.name Lib.Math.max.code 2 (some .int)) (by decide +kernel)) (Nat.le_of_ble_eq_true rfl) (Nat.le_of_ble_eq_true rfl) (Nat.zero_le _) (Nat.zero_le _) dX4_costOf_20 ?_
    refine z_top (y := nI (x - 10)) (z_maxs (by omega)) ?_
    refine z_imul hx hb dX4_costOf_23 ?_
    refine z_iadd hx hb dX4_costOf_24 ?_
    exact ro_iret hQ hx hb hr hlocks (by first | (rw [costN, if_pos c_7]; done) | (rw [costN, if_neg (by omega)]; done)) dX4_costOf_25
  · refine lv_iconst (v := nI 0) hx hb dX4_costOf_10 ci_0 ?_
    exact ro_iret hQ hx hb hr hlocks (by first | (rw [costN, if_pos c_7]; done) | (rw [costN, if_neg (by omega)]; done)) dX4_costOf_11
set_option maxHeartbeats 4000000 in
set_option maxRecDepth 100000 in
theorem c_X4_cost (l : Launch) (D : va_G) (cI : ClassId) (h0 : Nat) (b0 : Nat) (m0 : Nat) (p0 : Nat) (s0 : Nat) (q0 : Nat) (q : Nat) (sg : Nat) (rp : Int32) (lo : Int32) (ea : Int32) (p1 : Nat) (p2 : Nat) (p3 : Nat) (p4 : Nat) (f : Nat → Nat) (lf : Nat → Nat) (C : Nat → Int32) (ps : Nat → Nat) (cnt : Nat) (m1 : Nat) (t : Nat → Nat) (n : Nat) (hn : n ≤ 24) (ht : ∀ j, j < n → t j < 10) (hcnt : cnt ≤ 24) (hst : ∀ g, g < cnt → ps g < n) : RO l yX4_cost wsX4_cost rm_X4_cost D cI [(h0, .inr (4, [.ref b0, .ref m0, .ref p0, .ref s0, .ref q0, .int (nI q), .int (nI sg), .int rp, .int lo, .int ea])), (p0, .inr (2, [.ref p1, .ref p2, .ref p3, .ref p4, .int (nI cnt)])), (p1, .inl (cI, 25, .inl (nA f))), (p2, .inl (cI, 24, .inl (nA lf))), (p3, .inl (cI, 24, .inl C)), (p4, .inl (cI, 24, .inl (nA ps))), (m0, .inr (1, [.ref m1, .int (nI n)])), (m1, .inl (cI, 24, .inl (nA t)))] [.ref h0] (.int (nI (costN n (sN (ctW C ps t) cnt)))) := by
  refine ro_of (C := RX4) (cc := cX4_cost) (maxL := 1) (ret := (some .int)) rfl (by decide) rfl (Nat.le_of_ble_eq_true rfl) ?_
  intro pg ev sv mi ag bl mt cd ls Q hQ hx hb hr hlocks hml hts hown hK hE hP hl
  have hP : va_P D vwCl [(h0, .inr (4, [.ref b0, .ref m0, .ref p0, .ref s0, .ref q0, .int (nI q), .int (nI sg), .int rp, .int lo, .int ea])), (p0, .inr (2, [.ref p1, .ref p2, .ref p3, .ref p4, .int (nI cnt)])), (p1, .inl (cI, 25, .inl (nA f))), (p2, .inl (cI, 24, .inl (nA lf))), (p3, .inl (cI, 24, .inl C)), (p4, .inl (cI, 24, .inl (nA ps))), (m0, .inr (1, [.ref m1, .int (nI n)])), (m1, .inl (cI, 24, .inl (nA t)))] sv.heap := hP
  have hl : lv_has ls 1 [(0, .ref h0)] := hl
  have hcl := sN_le (f := ctW C ps t) (b := 2) cnt (fun j _ => ctW_le C ps t j)
  refine lv_aload_n hx hb dX4_cost_0 rfl (lv_at hl 0 rfl) ?_
  refine lv_aload_n hx hb dX4_cost_1 rfl (lv_at hl 0 rfl) ?_
  refine z_roV (As := []) (rest := [.ref h0]) ⟨hx, hb, hml, hown, hts⟩ (c_X4_counted l D cI h0 b0 m0 p0 s0 q0 q sg rp lo ea p1 p2 p3 p4 f lf C ps cnt m1 t n (by first | assumption | omega) (by first | assumption | omega) (by first | assumption | omega) (by first | assumption | omega)) (cwV 0 hts gX4_cost_X4_counted rfl rfl rfl hd_X4_counted ⟨Nat.le_of_ble_eq_true rfl, Nat.le_of_ble_eq_true rfl⟩) ⟨hK, hE⟩ (hP.sub (ws' := [(h0, .inr (4, [.ref b0, .ref m0, .ref p0, .ref s0, .ref q0, .int (nI q), .int (nI sg), .int rp, .int lo, .int ea])), (p0, .inr (2, [.ref p1, .ref p2, .ref p3, .ref p4, .int (nI cnt)])), (p1, .inl (cI, 25, .inl (nA f))), (p2, .inl (cI, 24, .inl (nA lf))), (p3, .inl (cI, 24, .inl C)), (p4, .inl (cI, 24, .inl (nA ps))), (m0, .inr (1, [.ref m1, .int (nI n)])), (m1, .inl (cI, 24, .inl (nA t)))]) [0, 1, 2, 3, 4, 5, 6, 7] rfl) (va_recv hK hP (ci := 4) (q0 := 0) rfl rfl) rfl hl.1 rfl (Nat.le_of_ble_eq_true rfl) dX4_cost_2 (Nat.zero_le _) (Nat.zero_le _) ?_
  refine z_roV (As := [.int (nI (sN (ctW C ps t) cnt))]) (rest := []) ⟨hx, hb, hml, hown, hts⟩ (c_X4_costOf l D cI h0 b0 m0 p0 s0 q0 q sg rp lo ea m1 n (sN (ctW C ps t) cnt) (by first | assumption | omega) (by first | assumption | omega)) (cwV 1 hts gX4_cost_X4_costOf rfl rfl rfl hd_X4_costOf ⟨Nat.le_of_ble_eq_true rfl, Nat.le_of_ble_eq_true rfl⟩) ⟨hK, hE⟩ (hP.sub (ws' := [(h0, .inr (4, [.ref b0, .ref m0, .ref p0, .ref s0, .ref q0, .int (nI q), .int (nI sg), .int rp, .int lo, .int ea])), (m0, .inr (1, [.ref m1, .int (nI n)]))]) [0, 6] rfl) (va_recv hK hP (ci := 4) (q0 := 0) rfl rfl) rfl hl.1 rfl (Nat.le_of_ble_eq_true rfl) dX4_cost_5 (Nat.zero_le _) (Nat.zero_le _) ?_
  exact ro_iret hQ hx hb hr hlocks rfl dX4_cost_8
set_option maxHeartbeats 4000000 in
set_option maxRecDepth 100000 in
theorem c_X4_saved (l : Launch) (D : va_G) (cI : ClassId) (h0 : Nat) (b0 : Nat) (m0 : Nat) (p0 : Nat) (s0 : Nat) (q0 : Nat) (q : Nat) (sg : Nat) (rp : Int32) (lo : Int32) (ea : Int32) (p1 : Nat) (p2 : Nat) (p3 : Nat) (p4 : Nat) (f : Nat → Nat) (lf : Nat → Nat) (C : Nat → Int32) (ps : Nat → Nat) (cnt : Nat) (m1 : Nat) (t : Nat → Nat) (n : Nat) (hn : n ≤ 24) (ht : ∀ j, j < n → t j < 10) (hcnt : cnt ≤ 24) (hst : ∀ g, g < cnt → ps g < n) : RO l yX4_saved wsX4_saved rm_X4_saved D cI [(h0, .inr (4, [.ref b0, .ref m0, .ref p0, .ref s0, .ref q0, .int (nI q), .int (nI sg), .int rp, .int lo, .int ea])), (p0, .inr (2, [.ref p1, .ref p2, .ref p3, .ref p4, .int (nI cnt)])), (p1, .inl (cI, 25, .inl (nA f))), (p2, .inl (cI, 24, .inl (nA lf))), (p3, .inl (cI, 24, .inl C)), (p4, .inl (cI, 24, .inl (nA ps))), (m0, .inr (1, [.ref m1, .int (nI n)])), (m1, .inl (cI, 24, .inl (nA t)))] [.ref h0] (.int (nI (costN n (sN (fun j => wc (t j)) n)) - nI (costN n (sN (ctW C ps t) cnt)))) := by
  refine ro_of (C := RX4) (cc := cX4_saved) (maxL := 1) (ret := (some .int)) rfl (by decide) rfl (Nat.le_of_ble_eq_true rfl) ?_
  intro pg ev sv mi ag bl mt cd ls Q hQ hx hb hr hlocks hml hts hown hK hE hP hl
  have hP : va_P D vwCl [(h0, .inr (4, [.ref b0, .ref m0, .ref p0, .ref s0, .ref q0, .int (nI q), .int (nI sg), .int rp, .int lo, .int ea])), (p0, .inr (2, [.ref p1, .ref p2, .ref p3, .ref p4, .int (nI cnt)])), (p1, .inl (cI, 25, .inl (nA f))), (p2, .inl (cI, 24, .inl (nA lf))), (p3, .inl (cI, 24, .inl C)), (p4, .inl (cI, 24, .inl (nA ps))), (m0, .inr (1, [.ref m1, .int (nI n)])), (m1, .inl (cI, 24, .inl (nA t)))] sv.heap := hP
  have hl : lv_has ls 1 [(0, .ref h0)] := hl
  have f_19 := hts (.fieldLink RX4 19 "TelegraphDesk" "message" "LTelegraphDesk$Message;") (by decide +kernel)
  have hi_4 : ∀ w ∈ wsX40, w ∈ wsX4_saved := by decide +kernel
  have hcl := sN_le (f := fun j => wc (t j)) (b := 2) n (fun j _ => wc_le _)
  refine lv_aload_n hx hb dX4_saved_0 rfl (lv_at hl 0 rfl) ?_
  refine lv_aload_n hx hb dX4_saved_1 rfl (lv_at hl 0 rfl) ?_
  refine va_get (v := .ref m0) hx hb hts hi_4 hown hK hP 0 rfl rfl 1 (by decide) f_19 (fun _ h => h) rfl dX4_saved_2 ?_
  refine z_roV (As := []) (rest := [.ref h0]) ⟨hx, hb, hml, hown, hts⟩ (c_X1_countOfAll l D cI m0 m1 t n (by first | assumption | omega) (by first | assumption | omega)) (cwV 0 hts gX4_saved_X1_countOfAll rfl rfl rfl hd_X1_countOfAll ⟨Nat.le_of_ble_eq_true rfl, Nat.le_of_ble_eq_true rfl⟩) ⟨hK, hE⟩ (hP.sub (ws' := [(m0, .inr (1, [.ref m1, .int (nI n)])), (m1, .inl (cI, 24, .inl (nA t)))]) [6, 7] rfl) (va_recv hK hP (ci := 1) (q0 := 6) rfl rfl) rfl hl.1 rfl (Nat.le_of_ble_eq_true rfl) dX4_saved_5 (Nat.zero_le _) (Nat.zero_le _) ?_
  refine z_roV (As := [.int (nI (sN (fun j => wc (t j)) n))]) (rest := []) ⟨hx, hb, hml, hown, hts⟩ (c_X4_costOf l D cI h0 b0 m0 p0 s0 q0 q sg rp lo ea m1 n (sN (fun j => wc (t j)) n) (by first | assumption | omega) (by first | assumption | omega)) (cwV 1 hts gX4_saved_X4_costOf rfl rfl rfl hd_X4_costOf ⟨Nat.le_of_ble_eq_true rfl, Nat.le_of_ble_eq_true rfl⟩) ⟨hK, hE⟩ (hP.sub (ws' := [(h0, .inr (4, [.ref b0, .ref m0, .ref p0, .ref s0, .ref q0, .int (nI q), .int (nI sg), .int rp, .int lo, .int ea])), (m0, .inr (1, [.ref m1, .int (nI n)]))]) [0, 6] rfl) (va_recv hK hP (ci := 4) (q0 := 0) rfl rfl) rfl hl.1 rfl (Nat.le_of_ble_eq_true rfl) dX4_saved_8 (Nat.zero_le _) (Nat.zero_le _) ?_
  refine lv_aload_n hx hb dX4_saved_11 rfl (lv_at hl 0 rfl) ?_
  refine z_roV (As := []) (rest := [.int (nI (costN n (sN (fun j => wc (t j)) n)))]) ⟨hx, hb, hml, hown, hts⟩ (c_X4_cost l D cI h0 b0 m0 p0 s0 q0 q sg rp lo ea p1 p2 p3 p4 f lf C ps cnt m1 t n (by first | assumption | omega) (by first | assumption | omega) (by first | assumption | omega) (by first | assumption | omega)) (cwV 0 hts gX4_saved_X4_cost rfl rfl rfl hd_X4_cost ⟨Nat.le_of_ble_eq_true rfl, Nat.le_of_ble_eq_true rfl⟩) ⟨hK, hE⟩ (hP.sub (ws' := [(h0, .inr (4, [.ref b0, .ref m0, .ref p0, .ref s0, .ref q0, .int (nI q), .int (nI sg), .int rp, .int lo, .int ea])), (p0, .inr (2, [.ref p1, .ref p2, .ref p3, .ref p4, .int (nI cnt)])), (p1, .inl (cI, 25, .inl (nA f))), (p2, .inl (cI, 24, .inl (nA lf))), (p3, .inl (cI, 24, .inl C)), (p4, .inl (cI, 24, .inl (nA ps))), (m0, .inr (1, [.ref m1, .int (nI n)])), (m1, .inl (cI, 24, .inl (nA t)))]) [0, 1, 2, 3, 4, 5, 6, 7] rfl) (va_recv hK hP (ci := 4) (q0 := 0) rfl rfl) rfl hl.1 rfl (Nat.le_of_ble_eq_true rfl) dX4_saved_12 (Nat.zero_le _) (Nat.zero_le _) ?_
  refine lv_isub hx hb dX4_saved_15 ?_
  exact ro_iret hQ hx hb hr hlocks rfl dX4_saved_16
set_option maxHeartbeats 4000000 in
set_option maxRecDepth 100000 in
theorem c_X4_untilGarbled (l : Launch) (D : va_G) (cI : ClassId) (h0 : Nat) (b0 : Nat) (m0 : Nat) (p0 : Nat) (s0 : Nat) (q0 : Nat) (q : Nat) (sg : Nat) (rp : Int32) (lo : Int32) (ea : Int32) (hq : q ≤ 9) (hsg : sg ≤ 60000) : RO l yX4_untilGarbled wsX4_untilGarbled rm_X4_untilGarbled D cI [(h0, .inr (4, [.ref b0, .ref m0, .ref p0, .ref s0, .ref q0, .int (nI q), .int (nI sg), .int rp, .int lo, .int ea]))] [.ref h0] (.int (nI (utN q sg))) := by
  refine ro_of (C := RX4) (cc := cX4_untilGarbled) (maxL := 2) (ret := (some .int)) rfl (by decide) rfl (Nat.le_of_ble_eq_true rfl) ?_
  intro pg ev sv mi ag bl mt cd ls Q hQ hx hb hr hlocks hml hts hown hK hE hP hl
  have hP : va_P D vwCl [(h0, .inr (4, [.ref b0, .ref m0, .ref p0, .ref s0, .ref q0, .int (nI q), .int (nI sg), .int rp, .int lo, .int ea]))] sv.heap := hP
  have hl : lv_has ls 2 [(0, .ref h0)] := hl
  have f_159 := hts (.fieldLink RX4 159 "TelegraphDesk" "sentGroups" "I") (by decide +kernel)
  have f_40 := hts (.fieldLink RX4 40 "TelegraphDesk" "quality" "I") (by decide +kernel)
  have hi_4 : ∀ w ∈ wsX40, w ∈ wsX4_untilGarbled := by decide +kernel
  obtain ⟨j9, hj1, hj2, hj3⟩ := gB_near hq sg
  refine lv_iconst (v := nI 1) hx hb dX4_untilGarbled_0 ci_1 ?_
  refine lv_istore_n (lv' := [(1, .int (nI 1)), (0, .ref h0)]) hx hb dX4_untilGarbled_1 rfl hl (by decide) rfl (fun ls hl => ?_)
  have lp_2 : ∀ (Nf : Nat) (i : Nat) (hi : 1 ≤ i ∧ i ≤ 20) (hall : ∀ j, 1 ≤ j → j < i → ¬ gB q (sg + j)) (hN : 21 - i < Nf) (ls : Array Slot), lv_has ls 2 [(1, .int (nI i)), (0, .ref h0)] → W pg l ev rm_X4_untilGarbled sv mi ag bl mt cd sv.heap [] 0 0 Q (F0 mi 2 ls []) := by
    intro Nf
    induction Nf with
    | zero =>
      intro i hi hall hN
      exact absurd hN (Nat.not_lt_zero _)
    | succ Nf ih_2 =>
      intro i hi hall hN ls hl
      refine lv_iload_n hx hb dX4_untilGarbled_2 rfl (lv_at hl 0 rfl) ?_
      refine lv_sipush (v := nI 1000) hx hb dX4_untilGarbled_3 (by decide) ?_
      refine z_icmp_ge (tgt := 31) hx hb dX4_untilGarbled_6 (by decide) (by omega) (by omega) (fun c_6 => ?_) (fun c_6 => ?_)
      · exact absurd c_6 (by omega)
      · refine lv_aload_n hx hb dX4_untilGarbled_9 rfl (lv_at hl 1 rfl) ?_
        refine va_get (v := .int (nI sg)) hx hb hts hi_4 hown hK hP 0 rfl rfl 6 (by decide) f_159 (fun _ h => h) rfl dX4_untilGarbled_10 ?_
        refine lv_iload_n hx hb dX4_untilGarbled_13 rfl (lv_at hl 0 rfl) ?_
        refine z_iadd hx hb dX4_untilGarbled_14 ?_
        refine lv_aload_n hx hb dX4_untilGarbled_15 rfl (lv_at hl 1 rfl) ?_
        refine va_get (v := .int (nI q)) hx hb hts hi_4 hown hK hP 0 rfl rfl 5 (by decide) f_40 (fun _ h => h) rfl dX4_untilGarbled_16 ?_
        refine z_roS (As := [.int (nI (sg + i)), .int (nI q)]) (rest := []) ⟨hx, hb, hml, hown, hts⟩ (c_X4_isGarbled l D cI (sg + i) q (by first | assumption | omega) (by first | assumption | omega)) (va_cwS 2 hts gX4_untilGarbled_X4_isGarbled rfl rfl rfl hd_X4_isGarbled ⟨Nat.le_of_ble_eq_true rfl, Nat.le_of_ble_eq_true rfl⟩) ⟨hK, hE⟩ (va_P_nil _ _ _) rfl hl.1 rfl (Nat.le_of_ble_eq_true rfl) dX4_untilGarbled_19 (Nat.zero_le _) (Nat.zero_le _) ?_
        refine z_if_neP (tgt := 31) hx hb dX4_untilGarbled_22 (by decide) (fun c_22 => ?_) (fun c_22 => ?_)
        · refine lv_iload_n hx hb dX4_untilGarbled_31 rfl (lv_at hl 0 rfl) ?_
          exact ro_iret hQ hx hb hr hlocks (congrArg nI (utN_eq hi.1 c_22 hall)) dX4_untilGarbled_32
        · refine lv_iinc (v := nI (i + 1)) (lv' := [(1, .int (nI (i + 1))), (0, .ref h0)]) hx hb dX4_untilGarbled_25 hl (k := 0) rfl (z_inc1 _) (by decide) rfl (fun ls hl => ?_)
          refine lv_goto (tgt := 2) hx hb dX4_untilGarbled_28 (by decide) ?_
          exact ih_2 (i + 1) ⟨by omega, by have h8 : ¬ j9 ≤ i := fun z => (by rcases Nat.lt_or_eq_of_le z with z | z; exact hall j9 hj1 z hj3; rw [z] at hj3; exact c_22 hj3); omega⟩ (fun j a b => by rcases (by omega : j < i ∨ j = i) with z | z; exact hall j a z; rw [z]; exact c_22) (by omega) ls (lv_sub hl [0, 1] rfl)
  exact lp_2 ((21 - 1) + 1) 1 (⟨Nat.le_refl _, by omega⟩) (fun j a b => by omega) (Nat.lt_succ_self _) ls hl
set_option maxHeartbeats 4000000 in
set_option maxRecDepth 100000 in
theorem c_X4_meanLength (l : Launch) (D : va_G) (cI : ClassId) (h0 : Nat) (b0 : Nat) (m0 : Nat) (p0 : Nat) (s0 : Nat) (q0 : Nat) (q : Nat) (sg : Nat) (rp : Int32) (lo : Int32) (ea : Int32) (b1 : Nat) (b2 : Nat) (T : Nat → Int32) (Lf : Nat → Nat) (k : Nat) (hk : k ≤ 8) (hL : ∀ c, c < k → 2 ≤ Lf c ∧ Lf c ≤ 4) : RO l yX4_meanLength wsX4_meanLength rm_X4_meanLength D cI [(h0, .inr (4, [.ref b0, .ref m0, .ref p0, .ref s0, .ref q0, .int (nI q), .int (nI sg), .int rp, .int lo, .int ea])), (b0, .inr (0, [.ref b1, .ref b2, .int (nI k)])), (b1, .inl (cI, 32, .inl T)), (b2, .inl (cI, 8, .inl (nA Lf)))] [.ref h0] (.double (mlN Lf k)) := by
  refine ro_of (C := RX4) (cc := cX4_meanLength) (maxL := 3) (ret := (some .double)) rfl (by decide) rfl (Nat.le_of_ble_eq_true rfl) ?_
  intro pg ev sv mi ag bl mt cd ls Q hQ hx hb hr hlocks hml hts hown hK hE hP hl
  have hP : va_P D vwCl [(h0, .inr (4, [.ref b0, .ref m0, .ref p0, .ref s0, .ref q0, .int (nI q), .int (nI sg), .int rp, .int lo, .int ea])), (b0, .inr (0, [.ref b1, .ref b2, .int (nI k)])), (b1, .inl (cI, 32, .inl T)), (b2, .inl (cI, 8, .inl (nA Lf)))] sv.heap := hP
  have hl : lv_has ls 3 [(0, .ref h0)] := hl
  have f_10 := hts (.fieldLink RX4 10 "TelegraphDesk" "book" "LTelegraphDesk$CodeBook;") (by decide +kernel)
  have hi_4 : ∀ w ∈ wsX40, w ∈ wsX4_meanLength := by decide +kernel
  refine lv_aload_n hx hb dX4_meanLength_0 rfl (lv_at hl 0 rfl) ?_
  refine va_get (v := .ref b0) hx hb hts hi_4 hown hK hP 0 rfl rfl 0 (by decide) f_10 (fun _ h => h) rfl dX4_meanLength_1 ?_
  refine z_roV (As := []) (rest := []) ⟨hx, hb, hml, hown, hts⟩ (c_X0_size l D cI b0 b1 b2 k) (cwV 0 hts gX4_meanLength_X0_size rfl rfl rfl hd_X0_size ⟨Nat.le_of_ble_eq_true rfl, Nat.le_of_ble_eq_true rfl⟩) ⟨hK, hE⟩ (hP.sub (ws' := [(b0, .inr (0, [.ref b1, .ref b2, .int (nI k)]))]) [1] rfl) (va_recv hK hP (ci := 0) (q0 := 1) rfl rfl) rfl hl.1 rfl (Nat.le_of_ble_eq_true rfl) dX4_meanLength_4 (Nat.zero_le _) (Nat.zero_le _) ?_
  refine z_if_ne (tgt := 12) hx hb dX4_meanLength_7 (by decide) (by omega) (fun c_7 => ?_) (fun c_7 => ?_)
  · have hsl := sN_le (f := Lf) (b := 4) k (fun j hj => (hL j hj).2)
    refine lv_iconst (v := nI 0) hx hb dX4_meanLength_12 ci_0 ?_
    refine lv_istore_n (lv' := [(1, .int (nI 0)), (0, .ref h0)]) hx hb dX4_meanLength_13 rfl hl (by decide) rfl (fun ls hl => ?_)
    refine lv_iconst (v := nI 0) hx hb dX4_meanLength_14 ci_0 ?_
    refine lv_istore_n (lv' := [(2, .int (nI 0)), (1, .int (nI 0)), (0, .ref h0)]) hx hb dX4_meanLength_15 rfl hl (by decide) rfl (fun ls hl => ?_)
    have lp_16 : ∀ (Nf : Nat) (i : Nat) (hi : i ≤ k) (hN : k - i < Nf) (ls : Array Slot), lv_has ls 3 [(2, .int (nI i)), (1, .int (nI (sN Lf i))), (0, .ref h0)] → W pg l ev rm_X4_meanLength sv mi ag bl mt cd sv.heap [] 0 0 Q (F0 mi 16 ls []) := by
      intro Nf
      induction Nf with
      | zero =>
        intro i hi hN
        exact absurd hN (Nat.not_lt_zero _)
      | succ Nf ih_16 =>
        intro i hi hN ls hl
        refine lv_iload_n hx hb dX4_meanLength_16 rfl (lv_at hl 0 rfl) ?_
        refine lv_aload_n hx hb dX4_meanLength_17 rfl (lv_at hl 2 rfl) ?_
        refine va_get (v := .ref b0) hx hb hts hi_4 hown hK hP 0 rfl rfl 0 (by decide) f_10 (fun _ h => h) rfl dX4_meanLength_18 ?_
        refine z_roV (As := []) (rest := [.int (nI i)]) ⟨hx, hb, hml, hown, hts⟩ (c_X0_size l D cI b0 b1 b2 k) (cwV 0 hts gX4_meanLength_X0_size rfl rfl rfl hd_X0_size ⟨Nat.le_of_ble_eq_true rfl, Nat.le_of_ble_eq_true rfl⟩) ⟨hK, hE⟩ (hP.sub (ws' := [(b0, .inr (0, [.ref b1, .ref b2, .int (nI k)]))]) [1] rfl) (va_recv hK hP (ci := 0) (q0 := 1) rfl rfl) rfl hl.1 rfl (Nat.le_of_ble_eq_true rfl) dX4_meanLength_21 (Nat.zero_le _) (Nat.zero_le _) ?_
        refine z_icmp_ge (tgt := 44) hx hb dX4_meanLength_24 (by decide) (by omega) (by omega) (fun c_24 => ?_) (fun c_24 => ?_)
        · have hik : i = k := by omega
          refine lv_iload_n hx hb dX4_meanLength_44 rfl (lv_at hl 1 rfl) ?_
          refine lv_i2d hx hb dX4_meanLength_45 ?_
          refine lv_aload_n hx hb dX4_meanLength_46 rfl (lv_at hl 2 rfl) ?_
          refine va_get (v := .ref b0) hx hb hts hi_4 hown hK hP 0 rfl rfl 0 (by decide) f_10 (fun _ h => h) rfl dX4_meanLength_47 ?_
          refine z_roV (As := []) (rest := [.double (FP.i2d (nI (sN Lf i)))]) ⟨hx, hb, hml, hown, hts⟩ (c_X0_size l D cI b0 b1 b2 k) (cwV 0 hts gX4_meanLength_X0_size rfl rfl rfl hd_X0_size ⟨Nat.le_of_ble_eq_true rfl, Nat.le_of_ble_eq_true rfl⟩) ⟨hK, hE⟩ (hP.sub (ws' := [(b0, .inr (0, [.ref b1, .ref b2, .int (nI k)]))]) [1] rfl) (va_recv hK hP (ci := 0) (q0 := 1) rfl rfl) rfl hl.1 rfl (Nat.le_of_ble_eq_true rfl) dX4_meanLength_50 (Nat.zero_le _) (Nat.zero_le _) ?_
          refine lv_i2d hx hb dX4_meanLength_53 ?_
          refine lv_ddiv hx hb dX4_meanLength_54 (by rw [hik]; exact ml_nan (by omega) (by omega) c_7) ?_
          exact ro_dret hQ hx hb hr hlocks (by first | (rw [mlN, if_pos c_7]; done) | (rw [mlN, if_neg (by omega), hik]; done)) dX4_meanLength_55
        · refine lv_iload_n hx hb dX4_meanLength_27 rfl (lv_at hl 1 rfl) ?_
          refine lv_aload_n hx hb dX4_meanLength_28 rfl (lv_at hl 2 rfl) ?_
          refine va_get (v := .ref b0) hx hb hts hi_4 hown hK hP 0 rfl rfl 0 (by decide) f_10 (fun _ h => h) rfl dX4_meanLength_29 ?_
          refine lv_iload_n hx hb dX4_meanLength_32 rfl (lv_at hl 0 rfl) ?_
          refine z_roV (As := [.int (nI i)]) (rest := [.int (nI (sN Lf i))]) ⟨hx, hb, hml, hown, hts⟩ (c_X0_wordsIn l D cI b0 b1 b2 T Lf k i (by first | assumption | omega) (by first | assumption | omega)) (cwV 1 hts gX4_meanLength_X0_wordsIn rfl rfl rfl hd_X0_wordsIn ⟨Nat.le_of_ble_eq_true rfl, Nat.le_of_ble_eq_true rfl⟩) ⟨hK, hE⟩ (hP.sub (ws' := [(b0, .inr (0, [.ref b1, .ref b2, .int (nI k)])), (b1, .inl (cI, 32, .inl T)), (b2, .inl (cI, 8, .inl (nA Lf)))]) [1, 2, 3] rfl) (va_recv hK hP (ci := 0) (q0 := 1) rfl rfl) rfl hl.1 rfl (Nat.le_of_ble_eq_true rfl) dX4_meanLength_33 (Nat.zero_le _) (Nat.zero_le _) ?_
          refine z_iadd hx hb dX4_meanLength_36 ?_
          refine lv_istore_n (lv' := [(1, .int (nI ((sN Lf i) + (Lf i)))), (2, .int (nI i)), (0, .ref h0)]) hx hb dX4_meanLength_37 rfl hl (by decide) rfl (fun ls hl => ?_)
          refine lv_iinc (v := nI (i + 1)) (lv' := [(2, .int (nI (i + 1))), (1, .int (nI ((sN Lf i) + (Lf i)))), (0, .ref h0)]) hx hb dX4_meanLength_38 hl (k := 1) rfl (z_inc1 _) (by decide) rfl (fun ls hl => ?_)
          refine lv_goto (tgt := 16) hx hb dX4_meanLength_41 (by decide) ?_
          exact ih_16 (i + 1) (by omega) (by omega) ls (lv_sub hl [0, 1, 2] rfl)
    exact lp_16 ((k - 0) + 1) 0 (Nat.zero_le _) (Nat.lt_succ_self _) ls hl
  · refine lv_dconst0 hx hb dX4_meanLength_10 ?_
    exact ro_dret hQ hx hb hr hlocks (by first | (rw [mlN, if_pos c_7]; done) | (rw [mlN, if_neg (by omega), hik]; done)) dX4_meanLength_11
