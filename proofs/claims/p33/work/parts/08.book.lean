theorem hd_X0_size : yX0_size.cls = RX0 ∧ yX0_size.cls ≠ "java/lang/invoke/MethodHandle" ∧ yX0_size.cls ≠ "java/lang/invoke/VarHandle" ∧ (parseMethodDescriptor yX0_size.desc).map (fun d => d.parameters.length) = some 0 := by decide +kernel
theorem hd_X0_isFull : yX0_isFull.cls = RX0 ∧ yX0_isFull.cls ≠ "java/lang/invoke/MethodHandle" ∧ yX0_isFull.cls ≠ "java/lang/invoke/VarHandle" ∧ (parseMethodDescriptor yX0_isFull.desc).map (fun d => d.parameters.length) = some 0 := by decide +kernel
theorem hd_X0_has : yX0_has.cls = RX0 ∧ yX0_has.cls ≠ "java/lang/invoke/MethodHandle" ∧ yX0_has.cls ≠ "java/lang/invoke/VarHandle" ∧ (parseMethodDescriptor yX0_has.desc).map (fun d => d.parameters.length) = some 1 := by decide +kernel
theorem hd_X0_typeIn : yX0_typeIn.cls = RX0 ∧ yX0_typeIn.cls ≠ "java/lang/invoke/MethodHandle" ∧ yX0_typeIn.cls ≠ "java/lang/invoke/VarHandle" ∧ (parseMethodDescriptor yX0_typeIn.desc).map (fun d => d.parameters.length) = some 2 := by decide +kernel
theorem hd_X0_wordsIn : yX0_wordsIn.cls = RX0 ∧ yX0_wordsIn.cls ≠ "java/lang/invoke/MethodHandle" ∧ yX0_wordsIn.cls ≠ "java/lang/invoke/VarHandle" ∧ (parseMethodDescriptor yX0_wordsIn.desc).map (fun d => d.parameters.length) = some 1 := by decide +kernel
theorem hd_X0_holds : yX0_holds.cls = RX0 ∧ yX0_holds.cls ≠ "java/lang/invoke/MethodHandle" ∧ yX0_holds.cls ≠ "java/lang/invoke/VarHandle" ∧ (parseMethodDescriptor yX0_holds.desc).map (fun d => d.parameters.length) = some 4 := by decide +kernel
theorem hd_X0_append : yX0_append.cls = RX0 ∧ yX0_append.cls ≠ "java/lang/invoke/MethodHandle" ∧ yX0_append.cls ≠ "java/lang/invoke/VarHandle" ∧ (parseMethodDescriptor yX0_append.desc).map (fun d => d.parameters.length) = some 4 := by decide +kernel
theorem hd_X0_remove : yX0_remove.cls = RX0 ∧ yX0_remove.cls ≠ "java/lang/invoke/MethodHandle" ∧ yX0_remove.cls ≠ "java/lang/invoke/VarHandle" ∧ (parseMethodDescriptor yX0_remove.desc).map (fun d => d.parameters.length) = some 1 := by decide +kernel
abbrev rm_X0_size : Room := { frames := 0, cells := 0, slots := 0, locals := 0 }
abbrev rm_X0_isFull : Room := { frames := 0, cells := 0, slots := 0, locals := 0 }
abbrev rm_X0_has : Room := { frames := 0, cells := 0, slots := 0, locals := 0 }
abbrev rm_X0_typeIn : Room := { frames := 1, cells := 0, slots := 0, locals := 21 }
abbrev rm_X0_wordsIn : Room := { frames := 1, cells := 0, slots := 0, locals := 21 }
abbrev rm_X0_holds : Room := { frames := 2, cells := 0, slots := 0, locals := 43 }
abbrev rm_X0_append : Room := { frames := 1, cells := 0, slots := 0, locals := 20 }
abbrev rm_X0_remove : Room := { frames := 1, cells := 0, slots := 0, locals := 64 }
set_option maxHeartbeats 4000000 in
set_option maxRecDepth 100000 in
theorem c_X0_size (l : Launch) (D : va_G) (cI : ClassId) (b0 : Nat) (b1 : Nat) (b2 : Nat) (k : Nat) : RO l yX0_size wsX0_size rm_X0_size D cI [(b0, .inr (0, [.ref b1, .ref b2, .int (nI k)]))] [.ref b0] (.int (nI k)) := by
  refine ro_of (C := RX0) (cc := cX0_size) (maxL := 1) (ret := (some .int)) rfl (by decide) rfl (Nat.le_of_ble_eq_true rfl) ?_
  intro pg ev sv mi ag bl mt cd ls Q hQ hx hb hr hlocks hml hts hown hK hE hP hl
  have hP : va_P D vwCl [(b0, .inr (0, [.ref b1, .ref b2, .int (nI k)]))] sv.heap := hP
  have hl : lv_has ls 1 [(0, .ref b0)] := hl
  have f_18 := hts (.fieldLink RX0 18 "TelegraphDesk$CodeBook" "count" "I") (by decide +kernel)
  have hi_0 : ∀ w ∈ wsX00, w ∈ wsX0_size := by decide +kernel
  refine lv_aload_n hx hb dX0_size_0 rfl (lv_at hl 0 rfl) ?_
  refine va_get (v := .int (nI k)) hx hb hts hi_0 hown hK hP 0 rfl rfl 2 (by decide) f_18 (fun _ h => h) rfl dX0_size_1 ?_
  exact ro_iret hQ hx hb hr hlocks rfl dX0_size_4
set_option maxHeartbeats 4000000 in
set_option maxRecDepth 100000 in
theorem c_X0_isFull (l : Launch) (D : va_G) (cI : ClassId) (b0 : Nat) (b1 : Nat) (b2 : Nat) (k : Nat) (hk : k ≤ 8) : RO l yX0_isFull wsX0_isFull rm_X0_isFull D cI [(b0, .inr (0, [.ref b1, .ref b2, .int (nI k)]))] [.ref b0] (.int (z1 (8 ≤ k))) := by
  refine ro_of (C := RX0) (cc := cX0_isFull) (maxL := 1) (ret := (some .boolean)) rfl (by decide) rfl (Nat.le_of_ble_eq_true rfl) ?_
  intro pg ev sv mi ag bl mt cd ls Q hQ hx hb hr hlocks hml hts hown hK hE hP hl
  have hP : va_P D vwCl [(b0, .inr (0, [.ref b1, .ref b2, .int (nI k)]))] sv.heap := hP
  have hl : lv_has ls 1 [(0, .ref b0)] := hl
  have f_18 := hts (.fieldLink RX0 18 "TelegraphDesk$CodeBook" "count" "I") (by decide +kernel)
  have hi_0 : ∀ w ∈ wsX00, w ∈ wsX0_isFull := by decide +kernel
  refine lv_aload_n hx hb dX0_isFull_0 rfl (lv_at hl 0 rfl) ?_
  refine va_get (v := .int (nI k)) hx hb hts hi_0 hown hK hP 0 rfl rfl 2 (by decide) f_18 (fun _ h => h) rfl dX0_isFull_1 ?_
  refine z_bipush (n := 8) hx hb rfl (by decide) dX0_isFull_4 ?_
  refine z_icmp_lt (tgt := 13) hx hb dX0_isFull_6 (by decide) (by omega) (by omega) (fun c_6 => ?_) (fun c_6 => ?_)
  · refine lv_iconst (v := nI 0) hx hb dX0_isFull_13 ci_0 ?_
    exact ro_zret hQ hx hb hr hlocks (z1_0 (by omega)) dX0_isFull_14
  · refine lv_iconst (v := nI 1) hx hb dX0_isFull_9 ci_1 ?_
    refine lv_goto (tgt := 14) hx hb dX0_isFull_10 (by decide) ?_
    exact ro_zret hQ hx hb hr hlocks (z1_1 (by omega)) dX0_isFull_14
set_option maxHeartbeats 4000000 in
set_option maxRecDepth 100000 in
theorem c_X0_has (l : Launch) (D : va_G) (cI : ClassId) (b0 : Nat) (b1 : Nat) (b2 : Nat) (k : Nat) (c : Nat) (hk : k ≤ 8) (hc : c < 2147483648) : RO l yX0_has wsX0_has rm_X0_has D cI [(b0, .inr (0, [.ref b1, .ref b2, .int (nI k)]))] [.ref b0, .int (nI c)] (.int (z1 (c < k))) := by
  refine ro_of (C := RX0) (cc := cX0_has) (maxL := 2) (ret := (some .boolean)) rfl (by decide) rfl (Nat.le_of_ble_eq_true rfl) ?_
  intro pg ev sv mi ag bl mt cd ls Q hQ hx hb hr hlocks hml hts hown hK hE hP hl
  have hP : va_P D vwCl [(b0, .inr (0, [.ref b1, .ref b2, .int (nI k)]))] sv.heap := hP
  have hl : lv_has ls 2 [(0, .ref b0), (1, .int (nI c))] := hl
  have f_18 := hts (.fieldLink RX0 18 "TelegraphDesk$CodeBook" "count" "I") (by decide +kernel)
  have hi_0 : ∀ w ∈ wsX00, w ∈ wsX0_has := by decide +kernel
  refine lv_iload_n hx hb dX0_has_0 rfl (lv_at hl 1 rfl) ?_
  refine z_if_lt (tgt := 16) hx hb dX0_has_1 (by decide) (by omega) ?_
  refine lv_iload_n hx hb dX0_has_4 rfl (lv_at hl 1 rfl) ?_
  refine lv_aload_n hx hb dX0_has_5 rfl (lv_at hl 0 rfl) ?_
  refine va_get (v := .int (nI k)) hx hb hts hi_0 hown hK hP 0 rfl rfl 2 (by decide) f_18 (fun _ h => h) rfl dX0_has_6 ?_
  refine z_icmp_ge (tgt := 16) hx hb dX0_has_9 (by decide) (by omega) (by omega) (fun c_9 => ?_) (fun c_9 => ?_)
  · refine lv_iconst (v := nI 0) hx hb dX0_has_16 ci_0 ?_
    exact ro_zret hQ hx hb hr hlocks (z1_0 (by omega)) dX0_has_17
  · refine lv_iconst (v := nI 1) hx hb dX0_has_12 ci_1 ?_
    refine lv_goto (tgt := 17) hx hb dX0_has_13 (by decide) ?_
    exact ro_zret hQ hx hb hr hlocks (z1_1 (by omega)) dX0_has_17
set_option maxHeartbeats 4000000 in
set_option maxRecDepth 100000 in
theorem c_X0_has_r (l : Launch) (D : va_G) (cI : ClassId) (b0 : Nat) (b1 : Nat) (b2 : Nat) (k : Nat) (x : Int32) (hk : k ≤ 8) : RO l yX0_has wsX0_has rm_X0_has D cI [(b0, .inr (0, [.ref b1, .ref b2, .int (nI k)]))] [.ref b0, .int x] (.int (z1 (∃ j : Nat, j < k ∧ x = nI j))) := by
  refine ro_of (C := RX0) (cc := cX0_has) (maxL := 2) (ret := (some .boolean)) rfl (by decide) rfl (Nat.le_of_ble_eq_true rfl) ?_
  intro pg ev sv mi ag bl mt cd ls Q hQ hx hb hr hlocks hml hts hown hK hE hP hl
  have hP : va_P D vwCl [(b0, .inr (0, [.ref b1, .ref b2, .int (nI k)]))] sv.heap := hP
  have hl : lv_has ls 2 [(0, .ref b0), (1, .int x)] := hl
  have f_18 := hts (.fieldLink RX0 18 "TelegraphDesk$CodeBook" "count" "I") (by decide +kernel)
  have hi_0 : ∀ w ∈ wsX00, w ∈ wsX0_has := by decide +kernel
  refine lv_iload_n hx hb dX0_has_0 rfl (lv_at hl 1 rfl) ?_
  refine lv_if_lt (tgt := 16) hx hb dX0_has_1 (by decide) (fun c_1 => ?_) (fun c_1 => ?_)
  · refine lv_iconst (v := nI 0) hx hb dX0_has_16 ci_0 ?_
    exact ro_zret hQ hx hb hr hlocks (z1_0 (by first | exact z_has_g (by omega) c_9 | exact z_has_n (by omega) c_1)) dX0_has_17
  · refine lv_iload_n hx hb dX0_has_4 rfl (lv_at hl 1 rfl) ?_
    refine lv_aload_n hx hb dX0_has_5 rfl (lv_at hl 0 rfl) ?_
    refine va_get (v := .int (nI k)) hx hb hts hi_0 hown hK hP 0 rfl rfl 2 (by decide) f_18 (fun _ h => h) rfl dX0_has_6 ?_
    refine lv_icmp_ge (tgt := 16) hx hb dX0_has_9 (by decide) (fun c_9 => ?_) (fun c_9 => ?_)
    · refine lv_iconst (v := nI 0) hx hb dX0_has_16 ci_0 ?_
      exact ro_zret hQ hx hb hr hlocks (z1_0 (by first | exact z_has_g (by omega) c_9 | exact z_has_n (by omega) c_1)) dX0_has_17
    · refine lv_iconst (v := nI 1) hx hb dX0_has_12 ci_1 ?_
      refine lv_goto (tgt := 17) hx hb dX0_has_13 (by decide) ?_
      exact ro_zret hQ hx hb hr hlocks (z1_1 (z_has_t (by omega) c_1 c_9)) dX0_has_17
set_option maxHeartbeats 4000000 in
set_option maxRecDepth 100000 in
theorem c_X0_typeIn (l : Launch) (D : va_G) (cI : ClassId) (b0 : Nat) (b1 : Nat) (b2 : Nat) (T : Nat → Int32) (Lf : Nat → Nat) (k : Nat) (c : Nat) (p : Nat) (hk : k ≤ 8) (hc : c < k) (hp : p < 4) : RO l yX0_typeIn wsX0_typeIn rm_X0_typeIn D cI [(b0, .inr (0, [.ref b1, .ref b2, .int (nI k)])), (b1, .inl (cI, 32, .inl T)), (b2, .inl (cI, 8, .inl (nA Lf)))] [.ref b0, .int (nI c), .int (nI p)] (.int (T (c * 4 + p))) := by
  refine ro_of (C := RX0) (cc := cX0_typeIn) (maxL := 3) (ret := (some .int)) rfl (by decide) rfl (Nat.le_of_ble_eq_true rfl) ?_
  intro pg ev sv mi ag bl mt cd ls Q hQ hx hb hr hlocks hml hts hown hK hE hP hl
  have hP : va_P D vwCl [(b0, .inr (0, [.ref b1, .ref b2, .int (nI k)])), (b1, .inl (cI, 32, .inl T)), (b2, .inl (cI, 8, .inl (nA Lf)))] sv.heap := hP
  have hl : lv_has ls 3 [(0, .ref b0), (1, .int (nI c)), (2, .int (nI p))] := hl
  have f_9 := hts (.fieldLink RX0 9 "TelegraphDesk$CodeBook" "types" "[I") (by decide +kernel)
  have hi_0 : ∀ w ∈ wsX00, w ∈ wsX0_typeIn := by decide +kernel
  refine lv_aload_n hx hb dX0_typeIn_0 rfl (lv_at hl 0 rfl) ?_
  refine lv_iload_n hx hb dX0_typeIn_1 rfl (lv_at hl 1 rfl) ?_
  refine z_roV (As := [.int (nI c)]) (rest := []) ⟨hx, hb, hml, hown, hts⟩ (c_X0_has l D cI b0 b1 b2 k c (by first | assumption | omega) (by first | assumption | omega)) (cwV 1 hts gX0_typeIn_X0_has rfl rfl rfl hd_X0_has ⟨Nat.le_of_ble_eq_true rfl, Nat.le_of_ble_eq_true rfl⟩) ⟨hK, hE⟩ (hP.sub (ws' := [(b0, .inr (0, [.ref b1, .ref b2, .int (nI k)]))]) [0] rfl) (va_recv hK hP (ci := 0) (q0 := 0) rfl rfl) rfl hl.1 rfl (Nat.le_of_ble_eq_true rfl) dX0_typeIn_2 (Nat.zero_le _) (Nat.zero_le _) ?_
  refine z_if_eqP (tgt := 17) hx hb dX0_typeIn_5 (by decide) (fun c_5 => ?_) (fun c_5 => ?_)
  · exact absurd hc c_5
  · refine lv_iload_n hx hb dX0_typeIn_8 rfl (lv_at hl 2 rfl) ?_
    refine z_if_lt (tgt := 17) hx hb dX0_typeIn_9 (by decide) (by omega) ?_
    refine lv_iload_n hx hb dX0_typeIn_12 rfl (lv_at hl 2 rfl) ?_
    refine lv_iconst (v := nI 4) hx hb dX0_typeIn_13 ci_4 ?_
    refine z_icmp_lt (tgt := 19) hx hb dX0_typeIn_14 (by decide) (by omega) (by omega) (fun c_14 => ?_) (fun c_14 => ?_)
    · refine lv_aload_n hx hb dX0_typeIn_19 rfl (lv_at hl 0 rfl) ?_
      refine va_get (v := .ref b1) hx hb hts hi_0 hown hK hP 0 rfl rfl 0 (by decide) f_9 (fun _ h => h) rfl dX0_typeIn_20 ?_
      refine lv_iload_n hx hb dX0_typeIn_23 rfl (lv_at hl 1 rfl) ?_
      refine lv_iconst (v := nI 4) hx hb dX0_typeIn_24 ci_4 ?_
      refine z_imul hx hb dX0_typeIn_25 ?_
      refine lv_iload_n hx hb dX0_typeIn_26 rfl (lv_at hl 2 rfl) ?_
      refine z_iadd hx hb dX0_typeIn_27 ?_
      refine z_iald hx hb hK hP 1 0 rfl rfl (by omega) (by omega) dX0_typeIn_28 ?_
      exact ro_iret hQ hx hb hr hlocks rfl dX0_typeIn_29
    · exact absurd hp (by omega)
set_option maxHeartbeats 4000000 in
set_option maxRecDepth 100000 in
theorem c_X0_wordsIn (l : Launch) (D : va_G) (cI : ClassId) (b0 : Nat) (b1 : Nat) (b2 : Nat) (T : Nat → Int32) (Lf : Nat → Nat) (k : Nat) (c : Nat) (hk : k ≤ 8) (hc : c < k) : RO l yX0_wordsIn wsX0_wordsIn rm_X0_wordsIn D cI [(b0, .inr (0, [.ref b1, .ref b2, .int (nI k)])), (b1, .inl (cI, 32, .inl T)), (b2, .inl (cI, 8, .inl (nA Lf)))] [.ref b0, .int (nI c)] (.int (nI (Lf c))) := by
  refine ro_of (C := RX0) (cc := cX0_wordsIn) (maxL := 2) (ret := (some .int)) rfl (by decide) rfl (Nat.le_of_ble_eq_true rfl) ?_
  intro pg ev sv mi ag bl mt cd ls Q hQ hx hb hr hlocks hml hts hown hK hE hP hl
  have hP : va_P D vwCl [(b0, .inr (0, [.ref b1, .ref b2, .int (nI k)])), (b1, .inl (cI, 32, .inl T)), (b2, .inl (cI, 8, .inl (nA Lf)))] sv.heap := hP
  have hl : lv_has ls 2 [(0, .ref b0), (1, .int (nI c))] := hl
  have f_15 := hts (.fieldLink RX0 15 "TelegraphDesk$CodeBook" "lengths" "[I") (by decide +kernel)
  have hi_0 : ∀ w ∈ wsX00, w ∈ wsX0_wordsIn := by decide +kernel
  refine lv_aload_n hx hb dX0_wordsIn_0 rfl (lv_at hl 0 rfl) ?_
  refine lv_iload_n hx hb dX0_wordsIn_1 rfl (lv_at hl 1 rfl) ?_
  refine z_roV (As := [.int (nI c)]) (rest := []) ⟨hx, hb, hml, hown, hts⟩ (c_X0_has l D cI b0 b1 b2 k c (by first | assumption | omega) (by first | assumption | omega)) (cwV 1 hts gX0_wordsIn_X0_has rfl rfl rfl hd_X0_has ⟨Nat.le_of_ble_eq_true rfl, Nat.le_of_ble_eq_true rfl⟩) ⟨hK, hE⟩ (hP.sub (ws' := [(b0, .inr (0, [.ref b1, .ref b2, .int (nI k)]))]) [0] rfl) (va_recv hK hP (ci := 0) (q0 := 0) rfl rfl) rfl hl.1 rfl (Nat.le_of_ble_eq_true rfl) dX0_wordsIn_2 (Nat.zero_le _) (Nat.zero_le _) ?_
  refine z_if_eqP (tgt := 17) hx hb dX0_wordsIn_5 (by decide) (fun c_5 => ?_) (fun c_5 => ?_)
  · exact absurd hc c_5
  · refine lv_aload_n hx hb dX0_wordsIn_8 rfl (lv_at hl 0 rfl) ?_
    refine va_get (v := .ref b2) hx hb hts hi_0 hown hK hP 0 rfl rfl 1 (by decide) f_15 (fun _ h => h) rfl dX0_wordsIn_9 ?_
    refine lv_iload_n hx hb dX0_wordsIn_12 rfl (lv_at hl 1 rfl) ?_
    refine z_ialdN hx hb hK hP 2 0 rfl rfl (by omega) (by omega) dX0_wordsIn_13 ?_
    refine lv_goto (tgt := 18) hx hb dX0_wordsIn_14 (by decide) ?_
    exact ro_iret hQ hx hb hr hlocks rfl dX0_wordsIn_18
set_option maxHeartbeats 4000000 in
set_option maxRecDepth 100000 in
theorem c_X0_holds (l : Launch) (D : va_G) (cI : ClassId) (b0 : Nat) (b1 : Nat) (b2 : Nat) (T : Nat → Int32) (Lf : Nat → Nat) (k : Nat) (x1 : Int32) (x2 : Int32) (x3 : Int32) (x4 : Int32) (hk : k ≤ 8) : RO l yX0_holds wsX0_holds rm_X0_holds D cI [(b0, .inr (0, [.ref b1, .ref b2, .int (nI k)])), (b1, .inl (cI, 32, .inl T)), (b2, .inl (cI, 8, .inl (nA Lf)))] [.ref b0, .int x1, .int x2, .int x3, .int x4] (.int (z1 (∃ c, c < k ∧ T (c * 4 + 0) = x1 ∧ T (c * 4 + 1) = x2 ∧ T (c * 4 + 2) = x3 ∧ T (c * 4 + 3) = x4))) := by
  refine ro_of (C := RX0) (cc := cX0_holds) (maxL := 6) (ret := (some .boolean)) rfl (by decide) rfl (Nat.le_of_ble_eq_true rfl) ?_
  intro pg ev sv mi ag bl mt cd ls Q hQ hx hb hr hlocks hml hts hown hK hE hP hl
  have hP : va_P D vwCl [(b0, .inr (0, [.ref b1, .ref b2, .int (nI k)])), (b1, .inl (cI, 32, .inl T)), (b2, .inl (cI, 8, .inl (nA Lf)))] sv.heap := hP
  have hl : lv_has ls 6 [(0, .ref b0), (1, .int x1), (2, .int x2), (3, .int x3), (4, .int x4)] := hl
  have f_18 := hts (.fieldLink RX0 18 "TelegraphDesk$CodeBook" "count" "I") (by decide +kernel)
  have hi_0 : ∀ w ∈ wsX00, w ∈ wsX0_holds := by decide +kernel
  refine lv_iconst (v := nI 0) hx hb dX0_holds_0 ci_0 ?_
  refine lv_istore (lv' := [(5, .int (nI 0)), (0, .ref b0), (1, .int x1), (2, .int x2), (3, .int x3), (4, .int x4)]) hx hb dX0_holds_1 hl (by decide) rfl (fun ls hl => ?_)
  have lp_3 : ∀ (Nf : Nat) (i : Nat) (hi : i ≤ k) (hall : ∀ c, c < i → ¬ (T (c * 4 + 0) = x1 ∧ T (c * 4 + 1) = x2 ∧ T (c * 4 + 2) = x3 ∧ T (c * 4 + 3) = x4)) (hN : k - i < Nf) (ls : Array Slot), lv_has ls 6 [(5, .int (nI i)), (0, .ref b0), (1, .int x1), (2, .int x2), (3, .int x3), (4, .int x4)] → W pg l ev rm_X0_holds sv mi ag bl mt cd sv.heap [] 0 0 Q (F0 mi 3 ls []) := by
    intro Nf
    induction Nf with
    | zero =>
      intro i hi hall hN
      exact absurd hN (Nat.not_lt_zero _)
    | succ Nf ih_3 =>
      intro i hi hall hN ls hl
      refine lv_iload hx hb dX0_holds_3 (lv_at hl 0 rfl) ?_
      refine lv_aload_n hx hb dX0_holds_5 rfl (lv_at hl 1 rfl) ?_
      refine va_get (v := .int (nI k)) hx hb hts hi_0 hown hK hP 0 rfl rfl 2 (by decide) f_18 (fun _ h => h) rfl dX0_holds_6 ?_
      refine z_icmp_ge (tgt := 65) hx hb dX0_holds_9 (by decide) (by omega) (by omega) (fun c_9 => ?_) (fun c_9 => ?_)
      · refine lv_iconst (v := nI 0) hx hb dX0_holds_65 ci_0 ?_
        exact ro_zret hQ hx hb hr hlocks (z1_0 (fun ⟨c, hc, h⟩ => hall c (by omega) h)) dX0_holds_66
      · refine lv_aload_n hx hb dX0_holds_12 rfl (lv_at hl 1 rfl) ?_
        refine lv_iload hx hb dX0_holds_13 (lv_at hl 0 rfl) ?_
        refine lv_iconst (v := nI 0) hx hb dX0_holds_15 ci_0 ?_
        refine z_roV (As := [.int (nI i), .int (nI 0)]) (rest := []) ⟨hx, hb, hml, hown, hts⟩ (c_X0_typeIn l D cI b0 b1 b2 T Lf k i 0 (by first | assumption | omega) (by first | assumption | omega) (by first | assumption | omega)) (cwV 2 hts gX0_holds_X0_typeIn rfl rfl rfl hd_X0_typeIn ⟨Nat.le_of_ble_eq_true rfl, Nat.le_of_ble_eq_true rfl⟩) ⟨hK, hE⟩ (hP.sub (ws' := [(b0, .inr (0, [.ref b1, .ref b2, .int (nI k)])), (b1, .inl (cI, 32, .inl T)), (b2, .inl (cI, 8, .inl (nA Lf)))]) [0, 1, 2] rfl) (va_recv hK hP (ci := 0) (q0 := 0) rfl rfl) rfl hl.1 rfl (Nat.le_of_ble_eq_true rfl) dX0_holds_16 (Nat.zero_le _) (Nat.zero_le _) ?_
        refine lv_iload_n hx hb dX0_holds_19 rfl (lv_at hl 2 rfl) ?_
        refine lv_icmp_ne (tgt := 59) hx hb dX0_holds_20 (by decide) (fun c_20 => ?_) (fun c_20 => ?_)
        · refine lv_iinc (v := nI (i + 1)) (lv' := [(5, .int (nI (i + 1))), (0, .ref b0), (1, .int x1), (2, .int x2), (3, .int x3), (4, .int x4)]) hx hb dX0_holds_59 hl (k := 0) rfl (z_inc1 _) (by decide) rfl (fun ls hl => ?_)
          refine lv_goto (tgt := 3) hx hb dX0_holds_62 (by decide) ?_
          exact ih_3 (i + 1) (by omega) (lt_s hall (fun q => by first | exact c_20 q.1 | exact c_31 q.2.1 | exact c_42 q.2.2.1 | exact c_54 q.2.2.2)) (by omega) ls (lv_sub hl [0, 1, 2, 3, 4, 5] rfl)
        · refine lv_aload_n hx hb dX0_holds_23 rfl (lv_at hl 1 rfl) ?_
          refine lv_iload hx hb dX0_holds_24 (lv_at hl 0 rfl) ?_
          refine lv_iconst (v := nI 1) hx hb dX0_holds_26 ci_1 ?_
          refine z_roV (As := [.int (nI i), .int (nI 1)]) (rest := []) ⟨hx, hb, hml, hown, hts⟩ (c_X0_typeIn l D cI b0 b1 b2 T Lf k i 1 (by first | assumption | omega) (by first | assumption | omega) (by first | assumption | omega)) (cwV 2 hts gX0_holds_X0_typeIn rfl rfl rfl hd_X0_typeIn ⟨Nat.le_of_ble_eq_true rfl, Nat.le_of_ble_eq_true rfl⟩) ⟨hK, hE⟩ (hP.sub (ws' := [(b0, .inr (0, [.ref b1, .ref b2, .int (nI k)])), (b1, .inl (cI, 32, .inl T)), (b2, .inl (cI, 8, .inl (nA Lf)))]) [0, 1, 2] rfl) (va_recv hK hP (ci := 0) (q0 := 0) rfl rfl) rfl hl.1 rfl (Nat.le_of_ble_eq_true rfl) dX0_holds_27 (Nat.zero_le _) (Nat.zero_le _) ?_
          refine lv_iload_n hx hb dX0_holds_30 rfl (lv_at hl 3 rfl) ?_
          refine lv_icmp_ne (tgt := 59) hx hb dX0_holds_31 (by decide) (fun c_31 => ?_) (fun c_31 => ?_)
          · refine lv_iinc (v := nI (i + 1)) (lv' := [(5, .int (nI (i + 1))), (0, .ref b0), (1, .int x1), (2, .int x2), (3, .int x3), (4, .int x4)]) hx hb dX0_holds_59 hl (k := 0) rfl (z_inc1 _) (by decide) rfl (fun ls hl => ?_)
            refine lv_goto (tgt := 3) hx hb dX0_holds_62 (by decide) ?_
            exact ih_3 (i + 1) (by omega) (lt_s hall (fun q => by first | exact c_20 q.1 | exact c_31 q.2.1 | exact c_42 q.2.2.1 | exact c_54 q.2.2.2)) (by omega) ls (lv_sub hl [0, 1, 2, 3, 4, 5] rfl)
          · refine lv_aload_n hx hb dX0_holds_34 rfl (lv_at hl 1 rfl) ?_
            refine lv_iload hx hb dX0_holds_35 (lv_at hl 0 rfl) ?_
            refine lv_iconst (v := nI 2) hx hb dX0_holds_37 ci_2 ?_
            refine z_roV (As := [.int (nI i), .int (nI 2)]) (rest := []) ⟨hx, hb, hml, hown, hts⟩ (c_X0_typeIn l D cI b0 b1 b2 T Lf k i 2 (by first | assumption | omega) (by first | assumption | omega) (by first | assumption | omega)) (cwV 2 hts gX0_holds_X0_typeIn rfl rfl rfl hd_X0_typeIn ⟨Nat.le_of_ble_eq_true rfl, Nat.le_of_ble_eq_true rfl⟩) ⟨hK, hE⟩ (hP.sub (ws' := [(b0, .inr (0, [.ref b1, .ref b2, .int (nI k)])), (b1, .inl (cI, 32, .inl T)), (b2, .inl (cI, 8, .inl (nA Lf)))]) [0, 1, 2] rfl) (va_recv hK hP (ci := 0) (q0 := 0) rfl rfl) rfl hl.1 rfl (Nat.le_of_ble_eq_true rfl) dX0_holds_38 (Nat.zero_le _) (Nat.zero_le _) ?_
            refine lv_iload_n hx hb dX0_holds_41 rfl (lv_at hl 4 rfl) ?_
            refine lv_icmp_ne (tgt := 59) hx hb dX0_holds_42 (by decide) (fun c_42 => ?_) (fun c_42 => ?_)
            · refine lv_iinc (v := nI (i + 1)) (lv' := [(5, .int (nI (i + 1))), (0, .ref b0), (1, .int x1), (2, .int x2), (3, .int x3), (4, .int x4)]) hx hb dX0_holds_59 hl (k := 0) rfl (z_inc1 _) (by decide) rfl (fun ls hl => ?_)
              refine lv_goto (tgt := 3) hx hb dX0_holds_62 (by decide) ?_
              exact ih_3 (i + 1) (by omega) (lt_s hall (fun q => by first | exact c_20 q.1 | exact c_31 q.2.1 | exact c_42 q.2.2.1 | exact c_54 q.2.2.2)) (by omega) ls (lv_sub hl [0, 1, 2, 3, 4, 5] rfl)
            · refine lv_aload_n hx hb dX0_holds_45 rfl (lv_at hl 1 rfl) ?_
              refine lv_iload hx hb dX0_holds_46 (lv_at hl 0 rfl) ?_
              refine lv_iconst (v := nI 3) hx hb dX0_holds_48 ci_3 ?_
              refine z_roV (As := [.int (nI i), .int (nI 3)]) (rest := []) ⟨hx, hb, hml, hown, hts⟩ (c_X0_typeIn l D cI b0 b1 b2 T Lf k i 3 (by first | assumption | omega) (by first | assumption | omega) (by first | assumption | omega)) (cwV 2 hts gX0_holds_X0_typeIn rfl rfl rfl hd_X0_typeIn ⟨Nat.le_of_ble_eq_true rfl, Nat.le_of_ble_eq_true rfl⟩) ⟨hK, hE⟩ (hP.sub (ws' := [(b0, .inr (0, [.ref b1, .ref b2, .int (nI k)])), (b1, .inl (cI, 32, .inl T)), (b2, .inl (cI, 8, .inl (nA Lf)))]) [0, 1, 2] rfl) (va_recv hK hP (ci := 0) (q0 := 0) rfl rfl) rfl hl.1 rfl (Nat.le_of_ble_eq_true rfl) dX0_holds_49 (Nat.zero_le _) (Nat.zero_le _) ?_
              refine lv_iload hx hb dX0_holds_52 (lv_at hl 5 rfl) ?_
              refine lv_icmp_ne (tgt := 59) hx hb dX0_holds_54 (by decide) (fun c_54 => ?_) (fun c_54 => ?_)
              · refine lv_iinc (v := nI (i + 1)) (lv' := [(5, .int (nI (i + 1))), (0, .ref b0), (1, .int x1), (2, .int x2), (3, .int x3), (4, .int x4)]) hx hb dX0_holds_59 hl (k := 0) rfl (z_inc1 _) (by decide) rfl (fun ls hl => ?_)
                refine lv_goto (tgt := 3) hx hb dX0_holds_62 (by decide) ?_
                exact ih_3 (i + 1) (by omega) (lt_s hall (fun q => by first | exact c_20 q.1 | exact c_31 q.2.1 | exact c_42 q.2.2.1 | exact c_54 q.2.2.2)) (by omega) ls (lv_sub hl [0, 1, 2, 3, 4, 5] rfl)
              · refine lv_iconst (v := nI 1) hx hb dX0_holds_57 ci_1 ?_
                exact ro_zret hQ hx hb hr hlocks (z1_1 ⟨i, by omega, c_20, c_31, c_42, c_54⟩) dX0_holds_58
  exact lp_3 ((k - 0) + 1) 0 (Nat.zero_le _) (fun _ h => absurd h (Nat.not_lt_zero _)) (Nat.lt_succ_self _) ls hl
set_option maxHeartbeats 4000000 in
set_option maxRecDepth 100000 in
theorem c_X0_append (l : Launch) (D : va_G) (cI : ClassId) (b0 : Nat) (b1 : Nat) (b2 : Nat) (T : Nat → Int32) (Lf : Nat → Nat) (k : Nat) (x1 : Int32) (x2 : Int32) (x3 : Int32) (x4 : Int32) (hk : k < 8) : MU l yX0_append wsX0_append rm_X0_append D cI [(b0, .inr (0, [.ref b1, .ref b2, .int (nI k)])), (b1, .inl (cI, 32, .inl T)), (b2, .inl (cI, 8, .inl (nA Lf)))] [.ref b0, .int x1, .int x2, .int x3, .int x4] (fun (v9 : Option Value) (u9 : (Nat → Nat)) => v9 = none ∧ (u9 = updN Lf k (clen x3 x4))) (fun (u9 : (Nat → Nat)) => [(b0, .inr (0, [.ref b1, .ref b2, .int (nI (k + 1))])), (b1, .inl (cI, 32, .inl (upd (upd (upd (upd T (k * 4) x1) (k * 4 + 1) x2) (k * 4 + 2) x3) (k * 4 + 3) x4))), (b2, .inl (cI, 8, .inl (nA u9)))]) := by
  refine mu_of (C := RX0) (cc := cX0_append) (maxL := 6) (ret := none) rfl (by decide) rfl (Nat.le_of_ble_eq_true rfl) ?_
  intro pg ev sv mi ag bl mt cd ls Q A hA hQ hx hb hr hlocks hml hts hown hK hE hD H locs hP hS hl
  have hD : zDD A [b0, b1, b2] := hD
  have hl : lv_has ls 6 [(0, .ref b0), (1, .int x1), (2, .int x2), (3, .int x3), (4, .int x4)] := hl
  have f_18 := hts (.fieldLink RX0 18 "TelegraphDesk$CodeBook" "count" "I") (by decide +kernel)
  have f_9 := hts (.fieldLink RX0 9 "TelegraphDesk$CodeBook" "types" "[I") (by decide +kernel)
  have f_15 := hts (.fieldLink RX0 15 "TelegraphDesk$CodeBook" "lengths" "[I") (by decide +kernel)
  have hi_0 : ∀ w ∈ wsX00, w ∈ wsX0_append := by decide +kernel
  refine lv_aload_n hx hb dX0_append_0 rfl (lv_at hl 0 rfl) ?_
  refine z_roV (As := []) (rest := []) ⟨hx, hb, hml, hown, hts⟩ (c_X0_isFull l D cI b0 b1 b2 k (by omega)) (cwV 0 hts gX0_append_X0_isFull rfl rfl rfl hd_X0_isFull ⟨Nat.le_of_ble_eq_true rfl, Nat.le_of_ble_eq_true rfl⟩) ⟨hK, hE⟩ (hP.sub (ws' := [(b0, .inr (0, [.ref b1, .ref b2, .int (nI k)]))]) [0] rfl) (va_recv hK hP (ci := 0) (q0 := 0) rfl rfl) rfl hl.1 rfl (Nat.le_of_ble_eq_true rfl) dX0_append_1 (Nat.zero_le _) (Nat.zero_le _) ?_
  refine z_if_eqP (tgt := 8) hx hb dX0_append_4 (by decide) (fun c_4 => ?_) (fun c_4 => ?_)
  · refine lv_aload_n hx hb dX0_append_8 rfl (lv_at hl 0 rfl) ?_
    refine va_get (v := .int (nI k)) hx hb hts hi_0 hown hK hP 0 rfl rfl 2 (by decide) f_18 (fun _ h => h) rfl dX0_append_9 ?_
    refine lv_iconst (v := nI 4) hx hb dX0_append_12 ci_4 ?_
    refine z_imul hx hb dX0_append_13 ?_
    refine lv_istore (lv' := [(5, .int (nI (k * 4))), (0, .ref b0), (1, .int x1), (2, .int x2), (3, .int x3), (4, .int x4)]) hx hb dX0_append_14 hl (by decide) rfl (fun ls hl => ?_)
    refine lv_aload_n hx hb dX0_append_16 rfl (lv_at hl 1 rfl) ?_
    refine va_get (v := .ref b1) hx hb hts hi_0 hown hK hP 0 rfl rfl 0 (by decide) f_9 (fun _ h => h) rfl dX0_append_17 ?_
    refine lv_iload hx hb dX0_append_20 (lv_at hl 0 rfl) ?_
    refine lv_iload_n hx hb dX0_append_22 rfl (lv_at hl 2 rfl) ?_
    refine z_iast hx hb hK hP hD rfl hS 1 0 rfl rfl (by omega) (by omega) dX0_append_23 (fun H locs hP hS => ?_)
    have hP : va_P D vwCl [(b0, .inr (0, [.ref b1, .ref b2, .int (nI k)])), (b1, .inl (cI, 32, .inl (upd T (k * 4) x1))), (b2, .inl (cI, 8, .inl (nA Lf)))] H := hP
    refine lv_aload_n hx hb dX0_append_24 rfl (lv_at hl 1 rfl) ?_
    refine va_get (v := .ref b1) hx hb hts hi_0 hown hK hP 0 rfl rfl 0 (by decide) f_9 (fun _ h => h) rfl dX0_append_25 ?_
    refine lv_iload hx hb dX0_append_28 (lv_at hl 0 rfl) ?_
    refine lv_iconst (v := nI 1) hx hb dX0_append_30 ci_1 ?_
    refine z_iadd hx hb dX0_append_31 ?_
    refine lv_iload_n hx hb dX0_append_32 rfl (lv_at hl 3 rfl) ?_
    refine z_iast hx hb hK hP hD rfl hS 1 0 rfl rfl (by omega) (by omega) dX0_append_33 (fun H locs hP hS => ?_)
    have hP : va_P D vwCl [(b0, .inr (0, [.ref b1, .ref b2, .int (nI k)])), (b1, .inl (cI, 32, .inl (upd (upd T (k * 4) x1) ((k * 4) + 1) x2))), (b2, .inl (cI, 8, .inl (nA Lf)))] H := hP
    refine lv_aload_n hx hb dX0_append_34 rfl (lv_at hl 1 rfl) ?_
    refine va_get (v := .ref b1) hx hb hts hi_0 hown hK hP 0 rfl rfl 0 (by decide) f_9 (fun _ h => h) rfl dX0_append_35 ?_
    refine lv_iload hx hb dX0_append_38 (lv_at hl 0 rfl) ?_
    refine lv_iconst (v := nI 2) hx hb dX0_append_40 ci_2 ?_
    refine z_iadd hx hb dX0_append_41 ?_
    refine lv_iload_n hx hb dX0_append_42 rfl (lv_at hl 4 rfl) ?_
    refine z_iast hx hb hK hP hD rfl hS 1 0 rfl rfl (by omega) (by omega) dX0_append_43 (fun H locs hP hS => ?_)
    have hP : va_P D vwCl [(b0, .inr (0, [.ref b1, .ref b2, .int (nI k)])), (b1, .inl (cI, 32, .inl (upd (upd (upd T (k * 4) x1) ((k * 4) + 1) x2) ((k * 4) + 2) x3))), (b2, .inl (cI, 8, .inl (nA Lf)))] H := hP
    refine lv_aload_n hx hb dX0_append_44 rfl (lv_at hl 1 rfl) ?_
    refine va_get (v := .ref b1) hx hb hts hi_0 hown hK hP 0 rfl rfl 0 (by decide) f_9 (fun _ h => h) rfl dX0_append_45 ?_
    refine lv_iload hx hb dX0_append_48 (lv_at hl 0 rfl) ?_
    refine lv_iconst (v := nI 3) hx hb dX0_append_50 ci_3 ?_
    refine z_iadd hx hb dX0_append_51 ?_
    refine lv_iload hx hb dX0_append_52 (lv_at hl 5 rfl) ?_
    refine z_iast hx hb hK hP hD rfl hS 1 0 rfl rfl (by omega) (by omega) dX0_append_54 (fun H locs hP hS => ?_)
    have hP : va_P D vwCl [(b0, .inr (0, [.ref b1, .ref b2, .int (nI k)])), (b1, .inl (cI, 32, .inl (upd (upd (upd (upd T (k * 4) x1) ((k * 4) + 1) x2) ((k * 4) + 2) x3) ((k * 4) + 3) x4))), (b2, .inl (cI, 8, .inl (nA Lf)))] H := hP
    refine lv_aload_n hx hb dX0_append_55 rfl (lv_at hl 1 rfl) ?_
    refine va_get (v := .ref b2) hx hb hts hi_0 hown hK hP 0 rfl rfl 1 (by decide) f_15 (fun _ h => h) rfl dX0_append_56 ?_
    refine lv_aload_n hx hb dX0_append_59 rfl (lv_at hl 1 rfl) ?_
    refine va_get (v := .int (nI k)) hx hb hts hi_0 hown hK hP 0 rfl rfl 2 (by decide) f_18 (fun _ h => h) rfl dX0_append_60 ?_
    refine lv_iconst (v := nI 4) hx hb dX0_append_63 ci_4 ?_
    refine z_iastN hx hb hK hP hD rfl hS 2 0 rfl rfl (by omega) (by omega) dX0_append_64 (fun H locs hP hS => ?_)
    have hP : va_P D vwCl [(b0, .inr (0, [.ref b1, .ref b2, .int (nI k)])), (b1, .inl (cI, 32, .inl (upd (upd (upd (upd T (k * 4) x1) ((k * 4) + 1) x2) ((k * 4) + 2) x3) ((k * 4) + 3) x4))), (b2, .inl (cI, 8, .inl (nA (updN Lf k 4))))] H := hP
    refine lv_iload hx hb dX0_append_65 (lv_at hl 5 rfl) ?_
    refine lv_iconst (v := -1) hx hb dX0_append_67 ci_m1 ?_
    refine lv_icmp_ne (tgt := 90) hx hb dX0_append_68 (by decide) (fun c_68 => ?_) (fun c_68 => ?_)
    · refine lv_aload_n hx hb dX0_append_90 rfl (lv_at hl 1 rfl) ?_
      refine lv_dup hx hb dX0_append_91 rfl ?_
      refine va_get (v := .int (nI k)) hx hb hts hi_0 hown hK hP 0 rfl rfl 2 (by decide) f_18 (fun _ h => h) rfl dX0_append_92 ?_
      refine lv_iconst (v := nI 1) hx hb dX0_append_95 ci_1 ?_
      refine z_iadd hx hb dX0_append_96 ?_
      refine z_put hx hb hts hi_0 tyX0 tyX0_ok nmX0 hown hK hP hD rfl hS 0 rfl rfl 2 (by decide) f_18 (fun _ h => h) rfl (by decide +kernel) (Nat.le_of_ble_eq_true rfl) dX0_append_97 (fun H locs hP hS => ?_)
      have hP : va_P D vwCl [(b0, .inr (0, [.ref b1, .ref b2, .int (nI (k + 1))])), (b1, .inl (cI, 32, .inl (upd (upd (upd (upd T (k * 4) x1) ((k * 4) + 1) x2) ((k * 4) + 2) x3) ((k * 4) + 3) x4))), (b2, .inl (cI, 8, .inl (nA (updN Lf k 4))))] H := hP
      exact mu_vret hA hQ hx hb hr hlocks (updN Lf k 4) hP hS ⟨rfl, (by first | (rw [clen, if_neg c_68]; done) | (rw [clen, if_pos c_68, if_pos c_81, updN_2]; done) | (rw [clen, if_pos c_68, if_neg c_81, updN_2]; done))⟩ dX0_append_100
    · refine lv_aload_n hx hb dX0_append_71 rfl (lv_at hl 1 rfl) ?_
      refine va_get (v := .ref b2) hx hb hts hi_0 hown hK hP 0 rfl rfl 1 (by decide) f_15 (fun _ h => h) rfl dX0_append_72 ?_
      refine lv_aload_n hx hb dX0_append_75 rfl (lv_at hl 1 rfl) ?_
      refine va_get (v := .int (nI k)) hx hb hts hi_0 hown hK hP 0 rfl rfl 2 (by decide) f_18 (fun _ h => h) rfl dX0_append_76 ?_
      refine lv_iload_n hx hb dX0_append_79 rfl (lv_at hl 4 rfl) ?_
      refine lv_iconst (v := -1) hx hb dX0_append_80 ci_m1 ?_
      refine lv_icmp_ne (tgt := 88) hx hb dX0_append_81 (by decide) (fun c_81 => ?_) (fun c_81 => ?_)
      · refine lv_iconst (v := nI 3) hx hb dX0_append_88 ci_3 ?_
        refine z_iastN hx hb hK hP hD rfl hS 2 0 rfl rfl (by omega) (by omega) dX0_append_89 (fun H locs hP hS => ?_)
        have hP : va_P D vwCl [(b0, .inr (0, [.ref b1, .ref b2, .int (nI k)])), (b1, .inl (cI, 32, .inl (upd (upd (upd (upd T (k * 4) x1) ((k * 4) + 1) x2) ((k * 4) + 2) x3) ((k * 4) + 3) x4))), (b2, .inl (cI, 8, .inl (nA (updN (updN Lf k 4) k 3))))] H := hP
        refine lv_aload_n hx hb dX0_append_90 rfl (lv_at hl 1 rfl) ?_
        refine lv_dup hx hb dX0_append_91 rfl ?_
        refine va_get (v := .int (nI k)) hx hb hts hi_0 hown hK hP 0 rfl rfl 2 (by decide) f_18 (fun _ h => h) rfl dX0_append_92 ?_
        refine lv_iconst (v := nI 1) hx hb dX0_append_95 ci_1 ?_
        refine z_iadd hx hb dX0_append_96 ?_
        refine z_put hx hb hts hi_0 tyX0 tyX0_ok nmX0 hown hK hP hD rfl hS 0 rfl rfl 2 (by decide) f_18 (fun _ h => h) rfl (by decide +kernel) (Nat.le_of_ble_eq_true rfl) dX0_append_97 (fun H locs hP hS => ?_)
        have hP : va_P D vwCl [(b0, .inr (0, [.ref b1, .ref b2, .int (nI (k + 1))])), (b1, .inl (cI, 32, .inl (upd (upd (upd (upd T (k * 4) x1) ((k * 4) + 1) x2) ((k * 4) + 2) x3) ((k * 4) + 3) x4))), (b2, .inl (cI, 8, .inl (nA (updN (updN Lf k 4) k 3))))] H := hP
        exact mu_vret hA hQ hx hb hr hlocks (updN (updN Lf k 4) k 3) hP hS ⟨rfl, (by first | (rw [clen, if_neg c_68]; done) | (rw [clen, if_pos c_68, if_pos c_81, updN_2]; done) | (rw [clen, if_pos c_68, if_neg c_81, updN_2]; done))⟩ dX0_append_100
      · refine lv_iconst (v := nI 2) hx hb dX0_append_84 ci_2 ?_
        refine lv_goto (tgt := 89) hx hb dX0_append_85 (by decide) ?_
        refine z_iastN hx hb hK hP hD rfl hS 2 0 rfl rfl (by omega) (by omega) dX0_append_89 (fun H locs hP hS => ?_)
        have hP : va_P D vwCl [(b0, .inr (0, [.ref b1, .ref b2, .int (nI k)])), (b1, .inl (cI, 32, .inl (upd (upd (upd (upd T (k * 4) x1) ((k * 4) + 1) x2) ((k * 4) + 2) x3) ((k * 4) + 3) x4))), (b2, .inl (cI, 8, .inl (nA (updN (updN Lf k 4) k 2))))] H := hP
        refine lv_aload_n hx hb dX0_append_90 rfl (lv_at hl 1 rfl) ?_
        refine lv_dup hx hb dX0_append_91 rfl ?_
        refine va_get (v := .int (nI k)) hx hb hts hi_0 hown hK hP 0 rfl rfl 2 (by decide) f_18 (fun _ h => h) rfl dX0_append_92 ?_
        refine lv_iconst (v := nI 1) hx hb dX0_append_95 ci_1 ?_
        refine z_iadd hx hb dX0_append_96 ?_
        refine z_put hx hb hts hi_0 tyX0 tyX0_ok nmX0 hown hK hP hD rfl hS 0 rfl rfl 2 (by decide) f_18 (fun _ h => h) rfl (by decide +kernel) (Nat.le_of_ble_eq_true rfl) dX0_append_97 (fun H locs hP hS => ?_)
        have hP : va_P D vwCl [(b0, .inr (0, [.ref b1, .ref b2, .int (nI (k + 1))])), (b1, .inl (cI, 32, .inl (upd (upd (upd (upd T (k * 4) x1) ((k * 4) + 1) x2) ((k * 4) + 2) x3) ((k * 4) + 3) x4))), (b2, .inl (cI, 8, .inl (nA (updN (updN Lf k 4) k 2))))] H := hP
        exact mu_vret hA hQ hx hb hr hlocks (updN (updN Lf k 4) k 2) hP hS ⟨rfl, (by first | (rw [clen, if_neg c_68]; done) | (rw [clen, if_pos c_68, if_pos c_81, updN_2]; done) | (rw [clen, if_pos c_68, if_neg c_81, updN_2]; done))⟩ dX0_append_100
  · exact absurd hk (by omega)
set_option maxHeartbeats 4000000 in
set_option maxRecDepth 100000 in
theorem c_X0_remove (l : Launch) (D : va_G) (cI : ClassId) (b0 : Nat) (b1 : Nat) (b2 : Nat) (T : Nat → Int32) (Lf : Nat → Nat) (k : Nat) (c : Nat) (hk : k ≤ 8) (hc : c < k) : MU l yX0_remove wsX0_remove rm_X0_remove D cI [(b0, .inr (0, [.ref b1, .ref b2, .int (nI k)])), (b1, .inl (cI, 32, .inl T)), (b2, .inl (cI, 8, .inl (nA Lf)))] [.ref b0, .int (nI c)] (fun (v9 : Option Value) (u9 : Unit) => v9 = none) (fun (u9 : Unit) => [(b0, .inr (0, [.ref b1, .ref b2, .int (nI (k - 1))])), (b1, .inl (cI, 32, .inl (va_cpy T T ((c + 1) * 4) (c * 4) ((k - c - 1) * 4)))), (b2, .inl (cI, 8, .inl (nA (va_cpy Lf Lf (c + 1) c (k - c - 1)))))]) := by
  refine mu_of (C := RX0) (cc := cX0_remove) (maxL := 3) (ret := none) rfl (by decide) rfl (Nat.le_of_ble_eq_true rfl) ?_
  intro pg ev sv mi ag bl mt cd ls Q A hA hQ hx hb hr hlocks hml hts hown hK hE hD H locs hP hS hl
  have hD : zDD A [b0, b1, b2] := hD
  have hl : lv_has ls 3 [(0, .ref b0), (1, .int (nI c))] := hl
  have f_18 := hts (.fieldLink RX0 18 "TelegraphDesk$CodeBook" "count" "I") (by decide +kernel)
  have f_9 := hts (.fieldLink RX0 9 "TelegraphDesk$CodeBook" "types" "[I") (by decide +kernel)
  have f_15 := hts (.fieldLink RX0 15 "TelegraphDesk$CodeBook" "lengths" "[I") (by decide +kernel)
  have hi_0 : ∀ w ∈ wsX00, w ∈ wsX0_remove := by decide +kernel
  refine lv_aload_n hx hb dX0_remove_0 rfl (lv_at hl 0 rfl) ?_
  refine lv_iload_n hx hb dX0_remove_1 rfl (lv_at hl 1 rfl) ?_
  refine z_roV (As := [.int (nI c)]) (rest := []) ⟨hx, hb, hml, hown, hts⟩ (c_X0_has l D cI b0 b1 b2 k c (by first | assumption | omega) (by first | assumption | omega)) (cwV 1 hts gX0_remove_X0_has rfl rfl rfl hd_X0_has ⟨Nat.le_of_ble_eq_true rfl, Nat.le_of_ble_eq_true rfl⟩) ⟨hK, hE⟩ (hP.sub (ws' := [(b0, .inr (0, [.ref b1, .ref b2, .int (nI k)]))]) [0] rfl) (va_recv hK hP (ci := 0) (q0 := 0) rfl rfl) rfl hl.1 rfl (Nat.le_of_ble_eq_true rfl) dX0_remove_2 (Nat.zero_le _) (Nat.zero_le _) ?_
  refine z_if_neP (tgt := 9) hx hb dX0_remove_5 (by decide) (fun c_5 => ?_) (fun c_5 => ?_)
  · refine lv_aload_n hx hb dX0_remove_9 rfl (lv_at hl 0 rfl) ?_
    refine va_get (v := .int (nI k)) hx hb hts hi_0 hown hK hP 0 rfl rfl 2 (by decide) f_18 (fun _ h => h) rfl dX0_remove_10 ?_
    refine lv_iload_n hx hb dX0_remove_13 rfl (lv_at hl 1 rfl) ?_
    refine z_isub hx hb dX0_remove_14 (by omega) ?_
    refine lv_iconst (v := nI 1) hx hb dX0_remove_15 ci_1 ?_
    refine z_isub hx hb dX0_remove_16 (by omega) ?_
    refine lv_istore_n (lv' := [(2, .int (nI ((k - c) - 1))), (0, .ref b0), (1, .int (nI c))]) hx hb dX0_remove_17 rfl hl (by decide) rfl (fun ls hl => ?_)
    refine lv_aload_n hx hb dX0_remove_18 rfl (lv_at hl 1 rfl) ?_
    refine va_get (v := .ref b1) hx hb hts hi_0 hown hK hP 0 rfl rfl 0 (by decide) f_9 (fun _ h => h) rfl dX0_remove_19 ?_
    refine lv_iload_n hx hb dX0_remove_22 rfl (lv_at hl 2 rfl) ?_
    refine lv_iconst (v := nI 1) hx hb dX0_remove_23 ci_1 ?_
    refine z_iadd hx hb dX0_remove_24 ?_
    refine lv_iconst (v := nI 4) hx hb dX0_remove_25 ci_4 ?_
    refine z_imul hx hb dX0_remove_26 ?_
    refine lv_aload_n hx hb dX0_remove_27 rfl (lv_at hl 1 rfl) ?_
    refine va_get (v := .ref b1) hx hb hts hi_0 hown hK hP 0 rfl rfl 0 (by decide) f_9 (fun _ h => h) rfl dX0_remove_28 ?_
    refine lv_iload_n hx hb dX0_remove_31 rfl (lv_at hl 2 rfl) ?_
    refine lv_iconst (v := nI 4) hx hb dX0_remove_32 ci_4 ?_
    refine z_imul hx hb dX0_remove_33 ?_
    refine lv_iload_n hx hb dX0_remove_34 rfl (lv_at hl 0 rfl) ?_
    refine lv_iconst (v := nI 4) hx hb dX0_remove_35 ci_4 ?_
    refine z_imul hx hb dX0_remove_36 ?_
    refine z_copy hx hb (by rw [hml]; exact hl.1.symm) hown (hts (.methodLink RX0 34 arraycopyName) (by decide +kernel)) (hts (.native arraycopyName) (by decide +kernel)) (hts (.static arraycopyName) (by decide +kernel)) (hts (.initialized "java/lang/System") (by decide +kernel)) hK hP hD rfl hS 1 1 0 rfl rfl rfl (by omega) (by omega) (by omega) (by omega) (by omega) (Nat.le_of_ble_eq_true rfl) (Nat.le_of_ble_eq_true rfl) dX0_remove_37 (fun H locs hP hS => ?_)
    have hP : va_P D vwCl [(b0, .inr (0, [.ref b1, .ref b2, .int (nI k)])), (b1, .inl (cI, 32, .inl (va_cpy T T ((c + 1) * 4) (c * 4) (((k - c) - 1) * 4)))), (b2, .inl (cI, 8, .inl (nA Lf)))] H := hP
    refine lv_aload_n hx hb dX0_remove_40 rfl (lv_at hl 1 rfl) ?_
    refine va_get (v := .ref b2) hx hb hts hi_0 hown hK hP 0 rfl rfl 1 (by decide) f_15 (fun _ h => h) rfl dX0_remove_41 ?_
    refine lv_iload_n hx hb dX0_remove_44 rfl (lv_at hl 2 rfl) ?_
    refine lv_iconst (v := nI 1) hx hb dX0_remove_45 ci_1 ?_
    refine z_iadd hx hb dX0_remove_46 ?_
    refine lv_aload_n hx hb dX0_remove_47 rfl (lv_at hl 1 rfl) ?_
    refine va_get (v := .ref b2) hx hb hts hi_0 hown hK hP 0 rfl rfl 1 (by decide) f_15 (fun _ h => h) rfl dX0_remove_48 ?_
    refine lv_iload_n hx hb dX0_remove_51 rfl (lv_at hl 2 rfl) ?_
    refine lv_iload_n hx hb dX0_remove_52 rfl (lv_at hl 0 rfl) ?_
    refine z_copyN hx hb (by rw [hml]; exact hl.1.symm) hown (hts (.methodLink RX0 34 arraycopyName) (by decide +kernel)) (hts (.native arraycopyName) (by decide +kernel)) (hts (.static arraycopyName) (by decide +kernel)) (hts (.initialized "java/lang/System") (by decide +kernel)) hK hP hD rfl hS 2 2 0 rfl rfl rfl (by omega) (by omega) (by omega) (by omega) (by omega) (Nat.le_of_ble_eq_true rfl) (Nat.le_of_ble_eq_true rfl) dX0_remove_53 (fun H locs hP hS => ?_)
    have hP : va_P D vwCl [(b0, .inr (0, [.ref b1, .ref b2, .int (nI k)])), (b1, .inl (cI, 32, .inl (va_cpy T T ((c + 1) * 4) (c * 4) (((k - c) - 1) * 4)))), (b2, .inl (cI, 8, .inl (nA (va_cpy Lf Lf (c + 1) c ((k - c) - 1)))))] H := hP
    refine lv_aload_n hx hb dX0_remove_56 rfl (lv_at hl 1 rfl) ?_
    refine lv_dup hx hb dX0_remove_57 rfl ?_
    refine va_get (v := .int (nI k)) hx hb hts hi_0 hown hK hP 0 rfl rfl 2 (by decide) f_18 (fun _ h => h) rfl dX0_remove_58 ?_
    refine lv_iconst (v := nI 1) hx hb dX0_remove_61 ci_1 ?_
    refine z_isub hx hb dX0_remove_62 (by omega) ?_
    refine z_put hx hb hts hi_0 tyX0 tyX0_ok nmX0 hown hK hP hD rfl hS 0 rfl rfl 2 (by decide) f_18 (fun _ h => h) rfl (by decide +kernel) (Nat.le_of_ble_eq_true rfl) dX0_remove_63 (fun H locs hP hS => ?_)
    have hP : va_P D vwCl [(b0, .inr (0, [.ref b1, .ref b2, .int (nI (k - 1))])), (b1, .inl (cI, 32, .inl (va_cpy T T ((c + 1) * 4) (c * 4) (((k - c) - 1) * 4)))), (b2, .inl (cI, 8, .inl (nA (va_cpy Lf Lf (c + 1) c ((k - c) - 1)))))] H := hP
    exact mu_vret hA hQ hx hb hr hlocks () hP hS rfl dX0_remove_66
  · exact absurd hc c_5
