theorem hd_X4_lengthOf : yX4_lengthOf.cls = RX4 ∧ yX4_lengthOf.cls ≠ "java/lang/invoke/MethodHandle" ∧ yX4_lengthOf.cls ≠ "java/lang/invoke/VarHandle" ∧ (parseMethodDescriptor yX4_lengthOf.desc).map (fun d => d.parameters.length) = some 1 := by decide +kernel
theorem hd_X4_typeOf : yX4_typeOf.cls = RX4 ∧ yX4_typeOf.cls ≠ "java/lang/invoke/MethodHandle" ∧ yX4_typeOf.cls ≠ "java/lang/invoke/VarHandle" ∧ (parseMethodDescriptor yX4_typeOf.desc).map (fun d => d.parameters.length) = some 1 := by decide +kernel
theorem hd_X4_codeOf : yX4_codeOf.cls = RX4 ∧ yX4_codeOf.cls ≠ "java/lang/invoke/MethodHandle" ∧ yX4_codeOf.cls ≠ "java/lang/invoke/VarHandle" ∧ (parseMethodDescriptor yX4_codeOf.desc).map (fun d => d.parameters.length) = some 1 := by decide +kernel
theorem hd_X4_startOf : yX4_startOf.cls = RX4 ∧ yX4_startOf.cls ≠ "java/lang/invoke/MethodHandle" ∧ yX4_startOf.cls ≠ "java/lang/invoke/VarHandle" ∧ (parseMethodDescriptor yX4_startOf.desc).map (fun d => d.parameters.length) = some 1 := by decide +kernel
theorem hd_X4_usesOf : yX4_usesOf.cls = RX4 ∧ yX4_usesOf.cls ≠ "java/lang/invoke/MethodHandle" ∧ yX4_usesOf.cls ≠ "java/lang/invoke/VarHandle" ∧ (parseMethodDescriptor yX4_usesOf.desc).map (fun d => d.parameters.length) = some 1 := by decide +kernel
theorem hd_X4_setQuality : yX4_setQuality.cls = RX4 ∧ yX4_setQuality.cls ≠ "java/lang/invoke/MethodHandle" ∧ yX4_setQuality.cls ≠ "java/lang/invoke/VarHandle" ∧ (parseMethodDescriptor yX4_setQuality.desc).map (fun d => d.parameters.length) = some 1 := by decide +kernel
theorem hd_X4_clear : yX4_clear.cls = RX4 ∧ yX4_clear.cls ≠ "java/lang/invoke/MethodHandle" ∧ yX4_clear.cls ≠ "java/lang/invoke/VarHandle" ∧ (parseMethodDescriptor yX4_clear.desc).map (fun d => d.parameters.length) = some 0 := by decide +kernel
theorem hd_X4_write : yX4_write.cls = RX4 ∧ yX4_write.cls ≠ "java/lang/invoke/MethodHandle" ∧ yX4_write.cls ≠ "java/lang/invoke/VarHandle" ∧ (parseMethodDescriptor yX4_write.desc).map (fun d => d.parameters.length) = some 1 := by decide +kernel
theorem hd_X4_strike : yX4_strike.cls = RX4 ∧ yX4_strike.cls ≠ "java/lang/invoke/MethodHandle" ∧ yX4_strike.cls ≠ "java/lang/invoke/VarHandle" ∧ (parseMethodDescriptor yX4_strike.desc).map (fun d => d.parameters.length) = some 0 := by decide +kernel
theorem hd_X4_dropCode : yX4_dropCode.cls = RX4 ∧ yX4_dropCode.cls ≠ "java/lang/invoke/MethodHandle" ∧ yX4_dropCode.cls ≠ "java/lang/invoke/VarHandle" ∧ (parseMethodDescriptor yX4_dropCode.desc).map (fun d => d.parameters.length) = some 1 := by decide +kernel
theorem hd_X4_addCode : yX4_addCode.cls = RX4 ∧ yX4_addCode.cls ≠ "java/lang/invoke/MethodHandle" ∧ yX4_addCode.cls ≠ "java/lang/invoke/VarHandle" ∧ (parseMethodDescriptor yX4_addCode.desc).map (fun d => d.parameters.length) = some 4 := by decide +kernel
theorem hd_X4_send : yX4_send.cls = RX4 ∧ yX4_send.cls ≠ "java/lang/invoke/MethodHandle" ∧ yX4_send.cls ≠ "java/lang/invoke/VarHandle" ∧ (parseMethodDescriptor yX4_send.desc).map (fun d => d.parameters.length) = some 0 := by decide +kernel
abbrev rm_X4_lengthOf : Room := { frames := 2, cells := 0, slots := 0, locals := 42 }
abbrev rm_X4_typeOf : Room := { frames := 2, cells := 0, slots := 0, locals := 42 }
abbrev rm_X4_codeOf : Room := { frames := 3, cells := 0, slots := 0, locals := 64 }
abbrev rm_X4_startOf : Room := { frames := 2, cells := 0, slots := 0, locals := 42 }
abbrev rm_X4_usesOf : Room := { frames := 4, cells := 0, slots := 0, locals := 87 }
abbrev rm_X4_setQuality : Room := { frames := 0, cells := 0, slots := 0, locals := 0 }
abbrev rm_X4_clear : Room := { frames := 6, cells := 0, slots := 0, locals := 138 }
abbrev rm_X4_write : Room := { frames := 6, cells := 0, slots := 0, locals := 138 }
abbrev rm_X4_strike : Room := { frames := 6, cells := 0, slots := 0, locals := 138 }
abbrev rm_X4_dropCode : Room := { frames := 6, cells := 0, slots := 0, locals := 138 }
abbrev rm_X4_addCode : Room := { frames := 6, cells := 0, slots := 0, locals := 138 }
abbrev rm_X4_send : Room := { frames := 6, cells := 0, slots := 0, locals := 138 }
set_option maxHeartbeats 4000000 in
set_option maxRecDepth 100000 in
theorem c_X4_lengthOf (l : Launch) (D : va_G) (cI : ClassId) (h0 : Nat) (b0 : Nat) (m0 : Nat) (p0 : Nat) (s0 : Nat) (q0 : Nat) (q : Nat) (sg : Nat) (rp : Int32) (lo : Int32) (ea : Int32) (b1 : Nat) (b2 : Nat) (T : Nat → Int32) (Lf : Nat → Nat) (k : Nat) (j : Nat) (hk : k ≤ 8) (hj : j < k) : RO l yX4_lengthOf wsX4_lengthOf rm_X4_lengthOf D cI [(h0, .inr (4, [.ref b0, .ref m0, .ref p0, .ref s0, .ref q0, .int (nI q), .int (nI sg), .int rp, .int lo, .int ea])), (b0, .inr (0, [.ref b1, .ref b2, .int (nI k)])), (b1, .inl (cI, 32, .inl T)), (b2, .inl (cI, 8, .inl (nA Lf)))] [.ref h0, .int (nI j)] (.int (nI (Lf j))) := by
  refine ro_of (C := RX4) (cc := cX4_lengthOf) (maxL := 2) (ret := (some .int)) rfl (by decide) rfl (Nat.le_of_ble_eq_true rfl) ?_
  intro pg ev sv mi ag bl mt cd ls Q hQ hx hb hr hlocks hml hts hown hK hE hP hl
  have hP : va_P D vwCl [(h0, .inr (4, [.ref b0, .ref m0, .ref p0, .ref s0, .ref q0, .int (nI q), .int (nI sg), .int rp, .int lo, .int ea])), (b0, .inr (0, [.ref b1, .ref b2, .int (nI k)])), (b1, .inl (cI, 32, .inl T)), (b2, .inl (cI, 8, .inl (nA Lf)))] sv.heap := hP
  have hl : lv_has ls 2 [(0, .ref h0), (1, .int (nI j))] := hl
  have f_10 := hts (.fieldLink RX4 10 "TelegraphDesk" "book" "LTelegraphDesk$CodeBook;") (by decide +kernel)
  have hi_4 : ∀ w ∈ wsX40, w ∈ wsX4_lengthOf := by decide +kernel
  refine lv_aload_n hx hb dX4_lengthOf_0 rfl (lv_at hl 0 rfl) ?_
  refine va_get (v := .ref b0) hx hb hts hi_4 hown hK hP 0 rfl rfl 0 (by decide) f_10 (fun _ h => h) rfl dX4_lengthOf_1 ?_
  refine lv_iload_n hx hb dX4_lengthOf_4 rfl (lv_at hl 1 rfl) ?_
  refine z_roV (As := [.int (nI j)]) (rest := []) ⟨hx, hb, hml, hown, hts⟩ (c_X0_has l D cI b0 b1 b2 k j (by first | assumption | omega) (by first | assumption | omega)) (cwV 1 hts gX4_lengthOf_X0_has rfl rfl rfl hd_X0_has ⟨Nat.le_of_ble_eq_true rfl, Nat.le_of_ble_eq_true rfl⟩) ⟨hK, hE⟩ (hP.sub (ws' := [(b0, .inr (0, [.ref b1, .ref b2, .int (nI k)]))]) [1] rfl) (va_recv hK hP (ci := 0) (q0 := 1) rfl rfl) rfl hl.1 rfl (Nat.le_of_ble_eq_true rfl) dX4_lengthOf_5 (Nat.zero_le _) (Nat.zero_le _) ?_
  refine z_if_neP (tgt := 21) hx hb dX4_lengthOf_8 (by decide) (fun c_8 => ?_) (fun c_8 => ?_)
  · refine lv_aload_n hx hb dX4_lengthOf_21 rfl (lv_at hl 0 rfl) ?_
    refine va_get (v := .ref b0) hx hb hts hi_4 hown hK hP 0 rfl rfl 0 (by decide) f_10 (fun _ h => h) rfl dX4_lengthOf_22 ?_
    refine lv_iload_n hx hb dX4_lengthOf_25 rfl (lv_at hl 1 rfl) ?_
    refine z_roV (As := [.int (nI j)]) (rest := []) ⟨hx, hb, hml, hown, hts⟩ (c_X0_wordsIn l D cI b0 b1 b2 T Lf k j (by first | assumption | omega) (by first | assumption | omega)) (cwV 1 hts gX4_lengthOf_X0_wordsIn rfl rfl rfl hd_X0_wordsIn ⟨Nat.le_of_ble_eq_true rfl, Nat.le_of_ble_eq_true rfl⟩) ⟨hK, hE⟩ (hP.sub (ws' := [(b0, .inr (0, [.ref b1, .ref b2, .int (nI k)])), (b1, .inl (cI, 32, .inl T)), (b2, .inl (cI, 8, .inl (nA Lf)))]) [1, 2, 3] rfl) (va_recv hK hP (ci := 0) (q0 := 1) rfl rfl) rfl hl.1 rfl (Nat.le_of_ble_eq_true rfl) dX4_lengthOf_26 (Nat.zero_le _) (Nat.zero_le _) ?_
    exact ro_iret hQ hx hb hr hlocks rfl dX4_lengthOf_29
  · exact absurd hj c_8
set_option maxHeartbeats 4000000 in
set_option maxRecDepth 100000 in
theorem c_X4_typeOf (l : Launch) (D : va_G) (cI : ClassId) (h0 : Nat) (b0 : Nat) (m0 : Nat) (p0 : Nat) (s0 : Nat) (q0 : Nat) (q : Nat) (sg : Nat) (rp : Int32) (lo : Int32) (ea : Int32) (m1 : Nat) (t : Nat → Nat) (n : Nat) (j : Nat) (hn : n ≤ 24) (hj : j < n) : RO l yX4_typeOf wsX4_typeOf rm_X4_typeOf D cI [(h0, .inr (4, [.ref b0, .ref m0, .ref p0, .ref s0, .ref q0, .int (nI q), .int (nI sg), .int rp, .int lo, .int ea])), (m0, .inr (1, [.ref m1, .int (nI n)])), (m1, .inl (cI, 24, .inl (nA t)))] [.ref h0, .int (nI j)] (.int (nI (t j))) := by
  refine ro_of (C := RX4) (cc := cX4_typeOf) (maxL := 2) (ret := (some .int)) rfl (by decide) rfl (Nat.le_of_ble_eq_true rfl) ?_
  intro pg ev sv mi ag bl mt cd ls Q hQ hx hb hr hlocks hml hts hown hK hE hP hl
  have hP : va_P D vwCl [(h0, .inr (4, [.ref b0, .ref m0, .ref p0, .ref s0, .ref q0, .int (nI q), .int (nI sg), .int rp, .int lo, .int ea])), (m0, .inr (1, [.ref m1, .int (nI n)])), (m1, .inl (cI, 24, .inl (nA t)))] sv.heap := hP
  have hl : lv_has ls 2 [(0, .ref h0), (1, .int (nI j))] := hl
  have f_19 := hts (.fieldLink RX4 19 "TelegraphDesk" "message" "LTelegraphDesk$Message;") (by decide +kernel)
  have hi_4 : ∀ w ∈ wsX40, w ∈ wsX4_typeOf := by decide +kernel
  refine lv_aload_n hx hb dX4_typeOf_0 rfl (lv_at hl 0 rfl) ?_
  refine va_get (v := .ref m0) hx hb hts hi_4 hown hK hP 0 rfl rfl 1 (by decide) f_19 (fun _ h => h) rfl dX4_typeOf_1 ?_
  refine lv_iload_n hx hb dX4_typeOf_4 rfl (lv_at hl 1 rfl) ?_
  refine z_roV (As := [.int (nI j)]) (rest := []) ⟨hx, hb, hml, hown, hts⟩ (c_X1_has l D cI m0 m1 n j (by first | assumption | omega) (by first | assumption | omega)) (cwV 1 hts gX4_typeOf_X1_has rfl rfl rfl hd_X1_has ⟨Nat.le_of_ble_eq_true rfl, Nat.le_of_ble_eq_true rfl⟩) ⟨hK, hE⟩ (hP.sub (ws' := [(m0, .inr (1, [.ref m1, .int (nI n)]))]) [1] rfl) (va_recv hK hP (ci := 1) (q0 := 1) rfl rfl) rfl hl.1 rfl (Nat.le_of_ble_eq_true rfl) dX4_typeOf_5 (Nat.zero_le _) (Nat.zero_le _) ?_
  refine z_if_neP (tgt := 21) hx hb dX4_typeOf_8 (by decide) (fun c_8 => ?_) (fun c_8 => ?_)
  · refine lv_aload_n hx hb dX4_typeOf_21 rfl (lv_at hl 0 rfl) ?_
    refine va_get (v := .ref m0) hx hb hts hi_4 hown hK hP 0 rfl rfl 1 (by decide) f_19 (fun _ h => h) rfl dX4_typeOf_22 ?_
    refine lv_iload_n hx hb dX4_typeOf_25 rfl (lv_at hl 1 rfl) ?_
    refine z_roV (As := [.int (nI j)]) (rest := []) ⟨hx, hb, hml, hown, hts⟩ (c_X1_typeAt l D cI m0 m1 t n j (by first | assumption | omega) (by first | assumption | omega)) (cwV 1 hts gX4_typeOf_X1_typeAt rfl rfl rfl hd_X1_typeAt ⟨Nat.le_of_ble_eq_true rfl, Nat.le_of_ble_eq_true rfl⟩) ⟨hK, hE⟩ (hP.sub (ws' := [(m0, .inr (1, [.ref m1, .int (nI n)])), (m1, .inl (cI, 24, .inl (nA t)))]) [1, 2] rfl) (va_recv hK hP (ci := 1) (q0 := 1) rfl rfl) rfl hl.1 rfl (Nat.le_of_ble_eq_true rfl) dX4_typeOf_26 (Nat.zero_le _) (Nat.zero_le _) ?_
    exact ro_iret hQ hx hb hr hlocks rfl dX4_typeOf_29
  · exact absurd hj c_8
set_option maxHeartbeats 4000000 in
set_option maxRecDepth 100000 in
theorem c_X4_codeOf (l : Launch) (D : va_G) (cI : ClassId) (h0 : Nat) (b0 : Nat) (m0 : Nat) (p0 : Nat) (s0 : Nat) (q0 : Nat) (q : Nat) (sg : Nat) (rp : Int32) (lo : Int32) (ea : Int32) (p1 : Nat) (p2 : Nat) (p3 : Nat) (p4 : Nat) (f : Nat → Nat) (lf : Nat → Nat) (C : Nat → Int32) (ps : Nat → Nat) (cnt : Nat) (j : Nat) (hcnt : cnt ≤ 24) (hps : ∀ j, j < cnt → ps j < 24) (hj : j < cnt) : RO l yX4_codeOf wsX4_codeOf rm_X4_codeOf D cI [(h0, .inr (4, [.ref b0, .ref m0, .ref p0, .ref s0, .ref q0, .int (nI q), .int (nI sg), .int rp, .int lo, .int ea])), (p0, .inr (2, [.ref p1, .ref p2, .ref p3, .ref p4, .int (nI cnt)])), (p1, .inl (cI, 25, .inl (nA f))), (p2, .inl (cI, 24, .inl (nA lf))), (p3, .inl (cI, 24, .inl C)), (p4, .inl (cI, 24, .inl (nA ps)))] [.ref h0, .int (nI j)] (.int (C (ps j))) := by
  refine ro_of (C := RX4) (cc := cX4_codeOf) (maxL := 2) (ret := (some .int)) rfl (by decide) rfl (Nat.le_of_ble_eq_true rfl) ?_
  intro pg ev sv mi ag bl mt cd ls Q hQ hx hb hr hlocks hml hts hown hK hE hP hl
  have hP : va_P D vwCl [(h0, .inr (4, [.ref b0, .ref m0, .ref p0, .ref s0, .ref q0, .int (nI q), .int (nI sg), .int rp, .int lo, .int ea])), (p0, .inr (2, [.ref p1, .ref p2, .ref p3, .ref p4, .int (nI cnt)])), (p1, .inl (cI, 25, .inl (nA f))), (p2, .inl (cI, 24, .inl (nA lf))), (p3, .inl (cI, 24, .inl C)), (p4, .inl (cI, 24, .inl (nA ps)))] sv.heap := hP
  have hl : lv_has ls 2 [(0, .ref h0), (1, .int (nI j))] := hl
  have f_26 := hts (.fieldLink RX4 26 "TelegraphDesk" "parting" "LTelegraphDesk$Parting;") (by decide +kernel)
  have hi_4 : ∀ w ∈ wsX40, w ∈ wsX4_codeOf := by decide +kernel
  refine lv_aload_n hx hb dX4_codeOf_0 rfl (lv_at hl 0 rfl) ?_
  refine va_get (v := .ref p0) hx hb hts hi_4 hown hK hP 0 rfl rfl 2 (by decide) f_26 (fun _ h => h) rfl dX4_codeOf_1 ?_
  refine lv_iload_n hx hb dX4_codeOf_4 rfl (lv_at hl 1 rfl) ?_
  refine z_roV (As := [.int (nI j)]) (rest := []) ⟨hx, hb, hml, hown, hts⟩ (c_X2_has l D cI p0 p1 p2 p3 p4 cnt j (by first | assumption | omega) (by first | assumption | omega)) (cwV 1 hts gX4_codeOf_X2_has rfl rfl rfl hd_X2_has ⟨Nat.le_of_ble_eq_true rfl, Nat.le_of_ble_eq_true rfl⟩) ⟨hK, hE⟩ (hP.sub (ws' := [(p0, .inr (2, [.ref p1, .ref p2, .ref p3, .ref p4, .int (nI cnt)]))]) [1] rfl) (va_recv hK hP (ci := 2) (q0 := 1) rfl rfl) rfl hl.1 rfl (Nat.le_of_ble_eq_true rfl) dX4_codeOf_5 (Nat.zero_le _) (Nat.zero_le _) ?_
  refine z_if_neP (tgt := 21) hx hb dX4_codeOf_8 (by decide) (fun c_8 => ?_) (fun c_8 => ?_)
  · refine lv_aload_n hx hb dX4_codeOf_21 rfl (lv_at hl 0 rfl) ?_
    refine va_get (v := .ref p0) hx hb hts hi_4 hown hK hP 0 rfl rfl 2 (by decide) f_26 (fun _ h => h) rfl dX4_codeOf_22 ?_
    refine lv_iload_n hx hb dX4_codeOf_25 rfl (lv_at hl 1 rfl) ?_
    refine z_roV (As := [.int (nI j)]) (rest := []) ⟨hx, hb, hml, hown, hts⟩ (c_X2_codeAt l D cI p0 p1 p2 p3 p4 f lf C ps cnt j (by first | assumption | omega) (by first | assumption | omega) (by first | assumption | omega)) (cwV 1 hts gX4_codeOf_X2_codeAt rfl rfl rfl hd_X2_codeAt ⟨Nat.le_of_ble_eq_true rfl, Nat.le_of_ble_eq_true rfl⟩) ⟨hK, hE⟩ (hP.sub (ws' := [(p0, .inr (2, [.ref p1, .ref p2, .ref p3, .ref p4, .int (nI cnt)])), (p1, .inl (cI, 25, .inl (nA f))), (p2, .inl (cI, 24, .inl (nA lf))), (p3, .inl (cI, 24, .inl C)), (p4, .inl (cI, 24, .inl (nA ps)))]) [1, 2, 3, 4, 5] rfl) (va_recv hK hP (ci := 2) (q0 := 1) rfl rfl) rfl hl.1 rfl (Nat.le_of_ble_eq_true rfl) dX4_codeOf_26 (Nat.zero_le _) (Nat.zero_le _) ?_
    exact ro_iret hQ hx hb hr hlocks rfl dX4_codeOf_29
  · exact absurd hj c_8
set_option maxHeartbeats 4000000 in
set_option maxRecDepth 100000 in
theorem c_X4_startOf (l : Launch) (D : va_G) (cI : ClassId) (h0 : Nat) (b0 : Nat) (m0 : Nat) (p0 : Nat) (s0 : Nat) (q0 : Nat) (q : Nat) (sg : Nat) (rp : Int32) (lo : Int32) (ea : Int32) (p1 : Nat) (p2 : Nat) (p3 : Nat) (p4 : Nat) (f : Nat → Nat) (lf : Nat → Nat) (C : Nat → Int32) (ps : Nat → Nat) (cnt : Nat) (j : Nat) (hcnt : cnt ≤ 24) (hj : j < cnt) : RO l yX4_startOf wsX4_startOf rm_X4_startOf D cI [(h0, .inr (4, [.ref b0, .ref m0, .ref p0, .ref s0, .ref q0, .int (nI q), .int (nI sg), .int rp, .int lo, .int ea])), (p0, .inr (2, [.ref p1, .ref p2, .ref p3, .ref p4, .int (nI cnt)])), (p1, .inl (cI, 25, .inl (nA f))), (p2, .inl (cI, 24, .inl (nA lf))), (p3, .inl (cI, 24, .inl C)), (p4, .inl (cI, 24, .inl (nA ps)))] [.ref h0, .int (nI j)] (.int (nI (ps j))) := by
  refine ro_of (C := RX4) (cc := cX4_startOf) (maxL := 2) (ret := (some .int)) rfl (by decide) rfl (Nat.le_of_ble_eq_true rfl) ?_
  intro pg ev sv mi ag bl mt cd ls Q hQ hx hb hr hlocks hml hts hown hK hE hP hl
  have hP : va_P D vwCl [(h0, .inr (4, [.ref b0, .ref m0, .ref p0, .ref s0, .ref q0, .int (nI q), .int (nI sg), .int rp, .int lo, .int ea])), (p0, .inr (2, [.ref p1, .ref p2, .ref p3, .ref p4, .int (nI cnt)])), (p1, .inl (cI, 25, .inl (nA f))), (p2, .inl (cI, 24, .inl (nA lf))), (p3, .inl (cI, 24, .inl C)), (p4, .inl (cI, 24, .inl (nA ps)))] sv.heap := hP
  have hl : lv_has ls 2 [(0, .ref h0), (1, .int (nI j))] := hl
  have f_26 := hts (.fieldLink RX4 26 "TelegraphDesk" "parting" "LTelegraphDesk$Parting;") (by decide +kernel)
  have hi_4 : ∀ w ∈ wsX40, w ∈ wsX4_startOf := by decide +kernel
  refine lv_aload_n hx hb dX4_startOf_0 rfl (lv_at hl 0 rfl) ?_
  refine va_get (v := .ref p0) hx hb hts hi_4 hown hK hP 0 rfl rfl 2 (by decide) f_26 (fun _ h => h) rfl dX4_startOf_1 ?_
  refine lv_iload_n hx hb dX4_startOf_4 rfl (lv_at hl 1 rfl) ?_
  refine z_roV (As := [.int (nI j)]) (rest := []) ⟨hx, hb, hml, hown, hts⟩ (c_X2_has l D cI p0 p1 p2 p3 p4 cnt j (by first | assumption | omega) (by first | assumption | omega)) (cwV 1 hts gX4_startOf_X2_has rfl rfl rfl hd_X2_has ⟨Nat.le_of_ble_eq_true rfl, Nat.le_of_ble_eq_true rfl⟩) ⟨hK, hE⟩ (hP.sub (ws' := [(p0, .inr (2, [.ref p1, .ref p2, .ref p3, .ref p4, .int (nI cnt)]))]) [1] rfl) (va_recv hK hP (ci := 2) (q0 := 1) rfl rfl) rfl hl.1 rfl (Nat.le_of_ble_eq_true rfl) dX4_startOf_5 (Nat.zero_le _) (Nat.zero_le _) ?_
  refine z_if_neP (tgt := 21) hx hb dX4_startOf_8 (by decide) (fun c_8 => ?_) (fun c_8 => ?_)
  · refine lv_aload_n hx hb dX4_startOf_21 rfl (lv_at hl 0 rfl) ?_
    refine va_get (v := .ref p0) hx hb hts hi_4 hown hK hP 0 rfl rfl 2 (by decide) f_26 (fun _ h => h) rfl dX4_startOf_22 ?_
    refine lv_iload_n hx hb dX4_startOf_25 rfl (lv_at hl 1 rfl) ?_
    refine z_roV (As := [.int (nI j)]) (rest := []) ⟨hx, hb, hml, hown, hts⟩ (c_X2_startAt l D cI p0 p1 p2 p3 p4 f lf C ps cnt j (by first | assumption | omega) (by first | assumption | omega)) (cwV 1 hts gX4_startOf_X2_startAt rfl rfl rfl hd_X2_startAt ⟨Nat.le_of_ble_eq_true rfl, Nat.le_of_ble_eq_true rfl⟩) ⟨hK, hE⟩ (hP.sub (ws' := [(p0, .inr (2, [.ref p1, .ref p2, .ref p3, .ref p4, .int (nI cnt)])), (p1, .inl (cI, 25, .inl (nA f))), (p2, .inl (cI, 24, .inl (nA lf))), (p3, .inl (cI, 24, .inl C)), (p4, .inl (cI, 24, .inl (nA ps)))]) [1, 2, 3, 4, 5] rfl) (va_recv hK hP (ci := 2) (q0 := 1) rfl rfl) rfl hl.1 rfl (Nat.le_of_ble_eq_true rfl) dX4_startOf_26 (Nat.zero_le _) (Nat.zero_le _) ?_
    exact ro_iret hQ hx hb hr hlocks rfl dX4_startOf_29
  · exact absurd hj c_8
set_option maxHeartbeats 4000000 in
set_option maxRecDepth 100000 in
theorem c_X4_usesOf (l : Launch) (D : va_G) (cI : ClassId) (h0 : Nat) (b0 : Nat) (m0 : Nat) (p0 : Nat) (s0 : Nat) (q0 : Nat) (q : Nat) (sg : Nat) (rp : Int32) (lo : Int32) (ea : Int32) (b1 : Nat) (b2 : Nat) (k : Nat) (p1 : Nat) (p2 : Nat) (p3 : Nat) (p4 : Nat) (f : Nat → Nat) (lf : Nat → Nat) (C : Nat → Int32) (ps : Nat → Nat) (cnt : Nat) (j : Nat) (hk : k ≤ 8) (hcnt : cnt ≤ 24) (hps : ∀ j, j < cnt → ps j < 24) (hj : j < k) : RO l yX4_usesOf wsX4_usesOf rm_X4_usesOf D cI [(h0, .inr (4, [.ref b0, .ref m0, .ref p0, .ref s0, .ref q0, .int (nI q), .int (nI sg), .int rp, .int lo, .int ea])), (b0, .inr (0, [.ref b1, .ref b2, .int (nI k)])), (p0, .inr (2, [.ref p1, .ref p2, .ref p3, .ref p4, .int (nI cnt)])), (p1, .inl (cI, 25, .inl (nA f))), (p2, .inl (cI, 24, .inl (nA lf))), (p3, .inl (cI, 24, .inl C)), (p4, .inl (cI, 24, .inl (nA ps)))] [.ref h0, .int (nI j)] (.int (nI (cN (fun i => C (ps i) = nI j) cnt))) := by
  refine ro_of (C := RX4) (cc := cX4_usesOf) (maxL := 2) (ret := (some .int)) rfl (by decide) rfl (Nat.le_of_ble_eq_true rfl) ?_
  intro pg ev sv mi ag bl mt cd ls Q hQ hx hb hr hlocks hml hts hown hK hE hP hl
  have hP : va_P D vwCl [(h0, .inr (4, [.ref b0, .ref m0, .ref p0, .ref s0, .ref q0, .int (nI q), .int (nI sg), .int rp, .int lo, .int ea])), (b0, .inr (0, [.ref b1, .ref b2, .int (nI k)])), (p0, .inr (2, [.ref p1, .ref p2, .ref p3, .ref p4, .int (nI cnt)])), (p1, .inl (cI, 25, .inl (nA f))), (p2, .inl (cI, 24, .inl (nA lf))), (p3, .inl (cI, 24, .inl C)), (p4, .inl (cI, 24, .inl (nA ps)))] sv.heap := hP
  have hl : lv_has ls 2 [(0, .ref h0), (1, .int (nI j))] := hl
  have f_10 := hts (.fieldLink RX4 10 "TelegraphDesk" "book" "LTelegraphDesk$CodeBook;") (by decide +kernel)
  have f_26 := hts (.fieldLink RX4 26 "TelegraphDesk" "parting" "LTelegraphDesk$Parting;") (by decide +kernel)
  have hi_4 : ∀ w ∈ wsX40, w ∈ wsX4_usesOf := by decide +kernel
  refine lv_aload_n hx hb dX4_usesOf_0 rfl (lv_at hl 0 rfl) ?_
  refine va_get (v := .ref b0) hx hb hts hi_4 hown hK hP 0 rfl rfl 0 (by decide) f_10 (fun _ h => h) rfl dX4_usesOf_1 ?_
  refine lv_iload_n hx hb dX4_usesOf_4 rfl (lv_at hl 1 rfl) ?_
  refine z_roV (As := [.int (nI j)]) (rest := []) ⟨hx, hb, hml, hown, hts⟩ (c_X0_has l D cI b0 b1 b2 k j (by first | assumption | omega) (by first | assumption | omega)) (cwV 1 hts gX4_usesOf_X0_has rfl rfl rfl hd_X0_has ⟨Nat.le_of_ble_eq_true rfl, Nat.le_of_ble_eq_true rfl⟩) ⟨hK, hE⟩ (hP.sub (ws' := [(b0, .inr (0, [.ref b1, .ref b2, .int (nI k)]))]) [1] rfl) (va_recv hK hP (ci := 0) (q0 := 1) rfl rfl) rfl hl.1 rfl (Nat.le_of_ble_eq_true rfl) dX4_usesOf_5 (Nat.zero_le _) (Nat.zero_le _) ?_
  refine z_if_neP (tgt := 21) hx hb dX4_usesOf_8 (by decide) (fun c_8 => ?_) (fun c_8 => ?_)
  · refine lv_aload_n hx hb dX4_usesOf_21 rfl (lv_at hl 0 rfl) ?_
    refine va_get (v := .ref p0) hx hb hts hi_4 hown hK hP 0 rfl rfl 2 (by decide) f_26 (fun _ h => h) rfl dX4_usesOf_22 ?_
    refine lv_iload_n hx hb dX4_usesOf_25 rfl (lv_at hl 1 rfl) ?_
    refine z_roV (As := [.int (nI j)]) (rest := []) ⟨hx, hb, hml, hown, hts⟩ (c_X2_groupsWith l D cI p0 p1 p2 p3 p4 f lf C ps cnt (nI j) (by first | assumption | omega) (by first | assumption | omega)) (cwV 1 hts gX4_usesOf_X2_groupsWith rfl rfl rfl hd_X2_groupsWith ⟨Nat.le_of_ble_eq_true rfl, Nat.le_of_ble_eq_true rfl⟩) ⟨hK, hE⟩ (hP.sub (ws' := [(p0, .inr (2, [.ref p1, .ref p2, .ref p3, .ref p4, .int (nI cnt)])), (p1, .inl (cI, 25, .inl (nA f))), (p2, .inl (cI, 24, .inl (nA lf))), (p3, .inl (cI, 24, .inl C)), (p4, .inl (cI, 24, .inl (nA ps)))]) [2, 3, 4, 5, 6] rfl) (va_recv hK hP (ci := 2) (q0 := 2) rfl rfl) rfl hl.1 rfl (Nat.le_of_ble_eq_true rfl) dX4_usesOf_26 (Nat.zero_le _) (Nat.zero_le _) ?_
    exact ro_iret hQ hx hb hr hlocks rfl dX4_usesOf_29
  · exact absurd hj c_8
set_option maxHeartbeats 4000000 in
set_option maxRecDepth 100000 in
theorem c_X4_setQuality (l : Launch) (D : va_G) (cI : ClassId) (h0 : Nat) (b0 : Nat) (m0 : Nat) (p0 : Nat) (s0 : Nat) (q0 : Nat) (q : Nat) (sg : Nat) (rp : Int32) (lo : Int32) (ea : Int32) (j : Nat) (hj : 1 ≤ j ∧ j ≤ 9) : MU l yX4_setQuality wsX4_setQuality rm_X4_setQuality D cI [(h0, .inr (4, [.ref b0, .ref m0, .ref p0, .ref s0, .ref q0, .int (nI q), .int (nI sg), .int rp, .int lo, .int ea]))] [.ref h0, .int (nI j)] (fun (v9 : Option Value) (u9 : Unit) => v9 = some (.int (nI q))) (fun (u9 : Unit) => [(h0, .inr (4, [.ref b0, .ref m0, .ref p0, .ref s0, .ref q0, .int (nI j), .int (nI sg), .int rp, .int lo, .int ea]))]) := by
  refine mu_of (C := RX4) (cc := cX4_setQuality) (maxL := 3) (ret := (some .int)) rfl (by decide) rfl (Nat.le_of_ble_eq_true rfl) ?_
  intro pg ev sv mi ag bl mt cd ls Q A hA hQ hx hb hr hlocks hml hts hown hK hE hD H locs hP hS hl
  have hD : zDD A [h0] := hD
  have hl : lv_has ls 3 [(0, .ref h0), (1, .int (nI j))] := hl
  have f_40 := hts (.fieldLink RX4 40 "TelegraphDesk" "quality" "I") (by decide +kernel)
  have hi_4 : ∀ w ∈ wsX40, w ∈ wsX4_setQuality := by decide +kernel
  refine lv_iload_n hx hb dX4_setQuality_0 rfl (lv_at hl 1 rfl) ?_
  refine lv_iconst (v := nI 1) hx hb dX4_setQuality_1 ci_1 ?_
  refine z_icmp_lt (tgt := 11) hx hb dX4_setQuality_2 (by decide) (by omega) (by omega) (fun c_2 => ?_) (fun c_2 => ?_)
  · exact absurd hj (by omega)
  · refine lv_iload_n hx hb dX4_setQuality_5 rfl (lv_at hl 1 rfl) ?_
    refine z_bipush (n := 9) hx hb rfl (by decide) dX4_setQuality_6 ?_
    refine z_icmp_le (tgt := 21) hx hb dX4_setQuality_8 (by decide) (by omega) (by omega) (fun c_8 => ?_) (fun c_8 => ?_)
    · refine lv_aload_n hx hb dX4_setQuality_21 rfl (lv_at hl 0 rfl) ?_
      refine va_get (v := .int (nI q)) hx hb hts hi_4 hown hK hP 0 rfl rfl 5 (by decide) f_40 (fun _ h => h) rfl dX4_setQuality_22 ?_
      refine lv_istore_n (lv' := [(2, .int (nI q)), (0, .ref h0), (1, .int (nI j))]) hx hb dX4_setQuality_25 rfl hl (by decide) rfl (fun ls hl => ?_)
      refine lv_aload_n hx hb dX4_setQuality_26 rfl (lv_at hl 1 rfl) ?_
      refine lv_iload_n hx hb dX4_setQuality_27 rfl (lv_at hl 2 rfl) ?_
      refine z_put hx hb hts hi_4 tyX4 tyX4_ok nmX4 hown hK hP hD rfl hS 0 rfl rfl 5 (by decide) f_40 (fun _ h => h) rfl (by decide +kernel) (Nat.le_of_ble_eq_true rfl) dX4_setQuality_28 (fun H locs hP hS => ?_)
      have hP : va_P D vwCl [(h0, .inr (4, [.ref b0, .ref m0, .ref p0, .ref s0, .ref q0, .int (nI j), .int (nI sg), .int rp, .int lo, .int ea]))] H := hP
      refine lv_iload_n hx hb dX4_setQuality_31 rfl (lv_at hl 0 rfl) ?_
      exact mu_iret hA hQ hx hb hr hlocks () hP hS rfl dX4_setQuality_32
    · exact absurd hj (by omega)
set_option maxHeartbeats 4000000 in
set_option maxRecDepth 100000 in
theorem c_X4_clear (l : Launch) (D : va_G) (cI : ClassId) (h0 : Nat) (b0 : Nat) (m0 : Nat) (p0 : Nat) (s0 : Nat) (q0 : Nat) (q : Nat) (sg : Nat) (rp : Int32) (lo : Int32) (ea : Int32) (p1 : Nat) (p2 : Nat) (p3 : Nat) (p4 : Nat) (f : Nat → Nat) (lf : Nat → Nat) (C : Nat → Int32) (ps : Nat → Nat) (cnt : Nat) (m1 : Nat) (t : Nat → Nat) (n : Nat) (b1 : Nat) (b2 : Nat) (T : Nat → Int32) (Lf : Nat → Nat) (k : Nat) (hn : n ≤ 24) (hk : k ≤ 8) (hL : ∀ c, c < k → 2 ≤ Lf c ∧ Lf c ≤ 4) : MU l yX4_clear wsX4_clear rm_X4_clear D cI [(h0, .inr (4, [.ref b0, .ref m0, .ref p0, .ref s0, .ref q0, .int (nI q), .int (nI sg), .int rp, .int lo, .int ea])), (p0, .inr (2, [.ref p1, .ref p2, .ref p3, .ref p4, .int (nI cnt)])), (p1, .inl (cI, 25, .inl (nA f))), (p2, .inl (cI, 24, .inl (nA lf))), (p3, .inl (cI, 24, .inl C)), (p4, .inl (cI, 24, .inl (nA ps))), (m0, .inr (1, [.ref m1, .int (nI n)])), (m1, .inl (cI, 24, .inl (nA t))), (b0, .inr (0, [.ref b1, .ref b2, .int (nI k)])), (b1, .inl (cI, 32, .inl T)), (b2, .inl (cI, 8, .inl (nA Lf)))] [.ref h0] (fun (v9 : Option Value) (u9 : (Nat → Nat) × (Nat → Nat) × (Nat → Int32) × (Nat → Nat) × Nat) => v9 = some (.int (nI n)) ∧ (PartC t 0 T Lf k (-1) 0 0 u9.1 u9.2.1 u9.2.2.1 u9.2.2.2.1 u9.2.2.2.2)) (fun (u9 : (Nat → Nat) × (Nat → Nat) × (Nat → Int32) × (Nat → Nat) × Nat) => [(h0, .inr (4, [.ref b0, .ref m0, .ref p0, .ref s0, .ref q0, .int (nI q), .int (nI sg), .int rp, .int lo, .int ea])), (p0, .inr (2, [.ref p1, .ref p2, .ref p3, .ref p4, .int (nI u9.2.2.2.2)])), (p1, .inl (cI, 25, .inl (nA u9.1))), (p2, .inl (cI, 24, .inl (nA u9.2.1))), (p3, .inl (cI, 24, .inl u9.2.2.1)), (p4, .inl (cI, 24, .inl (nA u9.2.2.2.1))), (m0, .inr (1, [.ref m1, .int (nI 0)])), (m1, .inl (cI, 24, .inl (nA t))), (b0, .inr (0, [.ref b1, .ref b2, .int (nI k)])), (b1, .inl (cI, 32, .inl T)), (b2, .inl (cI, 8, .inl (nA Lf)))]) := by
  refine mu_of (C := RX4) (cc := cX4_clear) (maxL := 2) (ret := (some .int)) rfl (by decide) rfl (Nat.le_of_ble_eq_true rfl) ?_
  intro pg ev sv mi ag bl mt cd ls Q A hA hQ hx hb hr hlocks hml hts hown hK hE hD H locs hP hS hl
  have hD : zDD A [h0, p0, p1, p2, p3, p4, m0, m1, b0, b1, b2] := hD
  have hl : lv_has ls 2 [(0, .ref h0)] := hl
  have f_19 := hts (.fieldLink RX4 19 "TelegraphDesk" "message" "LTelegraphDesk$Message;") (by decide +kernel)
  have hi_4 : ∀ w ∈ wsX40, w ∈ wsX4_clear := by decide +kernel
  refine lv_aload_n hx hb dX4_clear_0 rfl (lv_at hl 0 rfl) ?_
  refine va_get (v := .ref m0) hx hb hts hi_4 hown hK hP 0 rfl rfl 1 (by decide) f_19 (fun _ h => h) rfl dX4_clear_1 ?_
  refine z_roV (As := []) (rest := []) ⟨hx, hb, hml, hown, hts⟩ (c_X1_size l D cI m0 m1 n) (cwV 0 hts gX4_clear_X1_size rfl rfl rfl hd_X1_size ⟨Nat.le_of_ble_eq_true rfl, Nat.le_of_ble_eq_true rfl⟩) ⟨hK, hE⟩ (hP.sub (ws' := [(m0, .inr (1, [.ref m1, .int (nI n)]))]) [6] rfl) (va_recv hK hP (ci := 1) (q0 := 6) rfl rfl) rfl hl.1 rfl (Nat.le_of_ble_eq_true rfl) dX4_clear_4 (Nat.zero_le _) (Nat.zero_le _) ?_
  refine lv_istore_n (lv' := [(1, .int (nI n)), (0, .ref h0)]) hx hb dX4_clear_7 rfl hl (by decide) rfl (fun ls hl => ?_)
  refine lv_aload_n hx hb dX4_clear_8 rfl (lv_at hl 1 rfl) ?_
  refine va_get (v := .ref m0) hx hb hts hi_4 hown hK hP 0 rfl rfl 1 (by decide) f_19 (fun _ h => h) rfl dX4_clear_9 ?_
  refine z_muV (As := []) (rest := []) ⟨hx, hb, hml, hown, hts⟩ (c_X1_removeAll l D cI m0 m1 t n) (cwV 0 hts gX4_clear_X1_removeAll rfl rfl rfl hd_X1_removeAll ⟨Nat.le_of_ble_eq_true rfl, Nat.le_of_ble_eq_true rfl⟩) ⟨hK, hE⟩ hP hD rfl hS [6, 7] (by decide) rfl (fun _ => rfl) (va_recv hK hP (ci := 1) (q0 := 6) rfl rfl) rfl hl.1 rfl (Nat.le_of_ble_eq_true rfl) dX4_clear_12 (Nat.zero_le _) (Nat.zero_le _) (fun v9 u9 H locs hp hP hS => ?_)
  obtain rfl := hp
  have hP : va_P D vwCl [(h0, .inr (4, [.ref b0, .ref m0, .ref p0, .ref s0, .ref q0, .int (nI q), .int (nI sg), .int rp, .int lo, .int ea])), (p0, .inr (2, [.ref p1, .ref p2, .ref p3, .ref p4, .int (nI cnt)])), (p1, .inl (cI, 25, .inl (nA f))), (p2, .inl (cI, 24, .inl (nA lf))), (p3, .inl (cI, 24, .inl C)), (p4, .inl (cI, 24, .inl (nA ps))), (m0, .inr (1, [.ref m1, .int (nI 0)])), (m1, .inl (cI, 24, .inl (nA t))), (b0, .inr (0, [.ref b1, .ref b2, .int (nI k)])), (b1, .inl (cI, 32, .inl T)), (b2, .inl (cI, 8, .inl (nA Lf)))] H := hP
  refine W.eq (g2 := F0 mi 15 ls []) rfl ?_
  refine lv_aload_n hx hb dX4_clear_15 rfl (lv_at hl 1 rfl) ?_
  refine z_muV (As := []) (rest := []) ⟨hx, hb, hml, hown, hts⟩ (c_X4_shorten l D cI h0 b0 m0 p0 s0 q0 q sg rp lo ea p1 p2 p3 p4 f lf C ps cnt m1 t 0 b1 b2 T Lf k (by first | assumption | omega) (by first | assumption | omega) (by first | assumption | omega)) (cwV 0 hts gX4_clear_X4_shorten rfl rfl rfl hd_X4_shorten ⟨Nat.le_of_ble_eq_true rfl, Nat.le_of_ble_eq_true rfl⟩) ⟨hK, hE⟩ hP hD rfl hS [0, 1, 2, 3, 4, 5, 6, 7, 8, 9, 10] (by decide) rfl (fun _ => rfl) (va_recv hK hP (ci := 4) (q0 := 0) rfl rfl) rfl hl.1 rfl (Nat.le_of_ble_eq_true rfl) dX4_clear_16 (Nat.zero_le _) (Nat.zero_le _) (fun v9 u9 H locs hp hP hS => ?_)
  obtain ⟨f2_16, lf2_16, C2_16, ps2_16, cnt2_16⟩ := u9
  obtain ⟨rfl, hpart_16⟩ := hp
  try dsimp only at hpart_16
  have hP : va_P D vwCl [(h0, .inr (4, [.ref b0, .ref m0, .ref p0, .ref s0, .ref q0, .int (nI q), .int (nI sg), .int rp, .int lo, .int ea])), (p0, .inr (2, [.ref p1, .ref p2, .ref p3, .ref p4, .int (nI cnt2_16)])), (p1, .inl (cI, 25, .inl (nA f2_16))), (p2, .inl (cI, 24, .inl (nA lf2_16))), (p3, .inl (cI, 24, .inl C2_16)), (p4, .inl (cI, 24, .inl (nA ps2_16))), (m0, .inr (1, [.ref m1, .int (nI 0)])), (m1, .inl (cI, 24, .inl (nA t))), (b0, .inr (0, [.ref b1, .ref b2, .int (nI k)])), (b1, .inl (cI, 32, .inl T)), (b2, .inl (cI, 8, .inl (nA Lf)))] H := hP
  refine W.eq (g2 := F0 mi 19 ls []) rfl ?_
  refine lv_iload_n hx hb dX4_clear_19 rfl (lv_at hl 0 rfl) ?_
  exact mu_iret hA hQ hx hb hr hlocks (f2_16, lf2_16, C2_16, ps2_16, cnt2_16) hP hS ⟨rfl, hpart_16⟩ dX4_clear_20
set_option maxHeartbeats 4000000 in
set_option maxRecDepth 100000 in
theorem c_X4_write (l : Launch) (D : va_G) (cI : ClassId) (h0 : Nat) (b0 : Nat) (m0 : Nat) (p0 : Nat) (s0 : Nat) (q0 : Nat) (q : Nat) (sg : Nat) (rp : Int32) (lo : Int32) (ea : Int32) (p1 : Nat) (p2 : Nat) (p3 : Nat) (p4 : Nat) (f : Nat → Nat) (lf : Nat → Nat) (C : Nat → Int32) (ps : Nat → Nat) (cnt : Nat) (m1 : Nat) (t : Nat → Nat) (n : Nat) (b1 : Nat) (b2 : Nat) (T : Nat → Int32) (Lf : Nat → Nat) (k : Nat) (j : Nat) (hn : n < 24) (hk : k ≤ 8) (hL : ∀ c, c < k → 2 ≤ Lf c ∧ Lf c ≤ 4) (hj : j < 10) : MU l yX4_write wsX4_write rm_X4_write D cI [(h0, .inr (4, [.ref b0, .ref m0, .ref p0, .ref s0, .ref q0, .int (nI q), .int (nI sg), .int rp, .int lo, .int ea])), (p0, .inr (2, [.ref p1, .ref p2, .ref p3, .ref p4, .int (nI cnt)])), (p1, .inl (cI, 25, .inl (nA f))), (p2, .inl (cI, 24, .inl (nA lf))), (p3, .inl (cI, 24, .inl C)), (p4, .inl (cI, 24, .inl (nA ps))), (m0, .inr (1, [.ref m1, .int (nI n)])), (m1, .inl (cI, 24, .inl (nA t))), (b0, .inr (0, [.ref b1, .ref b2, .int (nI k)])), (b1, .inl (cI, 32, .inl T)), (b2, .inl (cI, 8, .inl (nA Lf)))] [.ref h0, .int (nI j)] (fun (v9 : Option Value) (u9 : (Nat → Nat) × (Nat → Nat) × (Nat → Int32) × (Nat → Nat) × Nat) => v9 = some (.int (nI (n + 1))) ∧ (PartC (updN t n j) (n + 1) T Lf k (-1) 0 0 u9.1 u9.2.1 u9.2.2.1 u9.2.2.2.1 u9.2.2.2.2)) (fun (u9 : (Nat → Nat) × (Nat → Nat) × (Nat → Int32) × (Nat → Nat) × Nat) => [(h0, .inr (4, [.ref b0, .ref m0, .ref p0, .ref s0, .ref q0, .int (nI q), .int (nI sg), .int rp, .int lo, .int ea])), (p0, .inr (2, [.ref p1, .ref p2, .ref p3, .ref p4, .int (nI u9.2.2.2.2)])), (p1, .inl (cI, 25, .inl (nA u9.1))), (p2, .inl (cI, 24, .inl (nA u9.2.1))), (p3, .inl (cI, 24, .inl u9.2.2.1)), (p4, .inl (cI, 24, .inl (nA u9.2.2.2.1))), (m0, .inr (1, [.ref m1, .int (nI (n + 1))])), (m1, .inl (cI, 24, .inl (nA (updN t n j)))), (b0, .inr (0, [.ref b1, .ref b2, .int (nI k)])), (b1, .inl (cI, 32, .inl T)), (b2, .inl (cI, 8, .inl (nA Lf)))]) := by
  refine mu_of (C := RX4) (cc := cX4_write) (maxL := 2) (ret := (some .int)) rfl (by decide) rfl (Nat.le_of_ble_eq_true rfl) ?_
  intro pg ev sv mi ag bl mt cd ls Q A hA hQ hx hb hr hlocks hml hts hown hK hE hD H locs hP hS hl
  have hD : zDD A [h0, p0, p1, p2, p3, p4, m0, m1, b0, b1, b2] := hD
  have hl : lv_has ls 2 [(0, .ref h0), (1, .int (nI j))] := hl
  have f_19 := hts (.fieldLink RX4 19 "TelegraphDesk" "message" "LTelegraphDesk$Message;") (by decide +kernel)
  have hi_4 : ∀ w ∈ wsX40, w ∈ wsX4_write := by decide +kernel
  refine lv_iload_n hx hb dX4_write_0 rfl (lv_at hl 1 rfl) ?_
  refine z_roS (As := [.int (nI j)]) (rest := []) ⟨hx, hb, hml, hown, hts⟩ (c_X4_isType l D cI (nI j)) (va_cwS 1 hts gX4_write_X4_isType rfl rfl rfl hd_X4_isType ⟨Nat.le_of_ble_eq_true rfl, Nat.le_of_ble_eq_true rfl⟩) ⟨hK, hE⟩ (va_P_nil _ _ _) rfl hl.1 rfl (Nat.le_of_ble_eq_true rfl) dX4_write_1 (Nat.zero_le _) (Nat.zero_le _) ?_
  refine z_if_neP (tgt := 17) hx hb dX4_write_4 (by decide) (fun c_4 => ?_) (fun c_4 => ?_)
  · refine lv_aload_n hx hb dX4_write_17 rfl (lv_at hl 0 rfl) ?_
    refine va_get (v := .ref m0) hx hb hts hi_4 hown hK hP 0 rfl rfl 1 (by decide) f_19 (fun _ h => h) rfl dX4_write_18 ?_
    refine z_roV (As := []) (rest := []) ⟨hx, hb, hml, hown, hts⟩ (c_X1_isFull l D cI m0 m1 n (by omega)) (cwV 0 hts gX4_write_X1_isFull rfl rfl rfl hd_X1_isFull ⟨Nat.le_of_ble_eq_true rfl, Nat.le_of_ble_eq_true rfl⟩) ⟨hK, hE⟩ (hP.sub (ws' := [(m0, .inr (1, [.ref m1, .int (nI n)]))]) [6] rfl) (va_recv hK hP (ci := 1) (q0 := 6) rfl rfl) rfl hl.1 rfl (Nat.le_of_ble_eq_true rfl) dX4_write_21 (Nat.zero_le _) (Nat.zero_le _) ?_
    refine z_if_eqP (tgt := 37) hx hb dX4_write_24 (by decide) (fun c_24 => ?_) (fun c_24 => ?_)
    · refine lv_aload_n hx hb dX4_write_37 rfl (lv_at hl 0 rfl) ?_
      refine va_get (v := .ref m0) hx hb hts hi_4 hown hK hP 0 rfl rfl 1 (by decide) f_19 (fun _ h => h) rfl dX4_write_38 ?_
      refine lv_iload_n hx hb dX4_write_41 rfl (lv_at hl 1 rfl) ?_
      refine z_muV (As := [.int (nI j)]) (rest := []) ⟨hx, hb, hml, hown, hts⟩ (c_X1_append l D cI m0 m1 t n j (by omega)) (cwV 1 hts gX4_write_X1_append rfl rfl rfl hd_X1_append ⟨Nat.le_of_ble_eq_true rfl, Nat.le_of_ble_eq_true rfl⟩) ⟨hK, hE⟩ hP hD rfl hS [6, 7] (by decide) rfl (fun _ => rfl) (va_recv hK hP (ci := 1) (q0 := 6) rfl rfl) rfl hl.1 rfl (Nat.le_of_ble_eq_true rfl) dX4_write_42 (Nat.zero_le _) (Nat.zero_le _) (fun v9 u9 H locs hp hP hS => ?_)
      obtain rfl := hp
      have hP : va_P D vwCl [(h0, .inr (4, [.ref b0, .ref m0, .ref p0, .ref s0, .ref q0, .int (nI q), .int (nI sg), .int rp, .int lo, .int ea])), (p0, .inr (2, [.ref p1, .ref p2, .ref p3, .ref p4, .int (nI cnt)])), (p1, .inl (cI, 25, .inl (nA f))), (p2, .inl (cI, 24, .inl (nA lf))), (p3, .inl (cI, 24, .inl C)), (p4, .inl (cI, 24, .inl (nA ps))), (m0, .inr (1, [.ref m1, .int (nI (n + 1))])), (m1, .inl (cI, 24, .inl (nA (updN t n j)))), (b0, .inr (0, [.ref b1, .ref b2, .int (nI k)])), (b1, .inl (cI, 32, .inl T)), (b2, .inl (cI, 8, .inl (nA Lf)))] H := hP
      refine W.eq (g2 := F0 mi 45 ls []) rfl ?_
      refine lv_aload_n hx hb dX4_write_45 rfl (lv_at hl 0 rfl) ?_
      refine z_muV (As := []) (rest := []) ⟨hx, hb, hml, hown, hts⟩ (c_X4_shorten l D cI h0 b0 m0 p0 s0 q0 q sg rp lo ea p1 p2 p3 p4 f lf C ps cnt m1 (updN t n j) (n + 1) b1 b2 T Lf k (by omega) (by first | assumption | omega) (by first | assumption | omega)) (cwV 0 hts gX4_write_X4_shorten rfl rfl rfl hd_X4_shorten ⟨Nat.le_of_ble_eq_true rfl, Nat.le_of_ble_eq_true rfl⟩) ⟨hK, hE⟩ hP hD rfl hS [0, 1, 2, 3, 4, 5, 6, 7, 8, 9, 10] (by decide) rfl (fun _ => rfl) (va_recv hK hP (ci := 4) (q0 := 0) rfl rfl) rfl hl.1 rfl (Nat.le_of_ble_eq_true rfl) dX4_write_46 (Nat.zero_le _) (Nat.zero_le _) (fun v9 u9 H locs hp hP hS => ?_)
      obtain ⟨f2_46, lf2_46, C2_46, ps2_46, cnt2_46⟩ := u9
      obtain ⟨rfl, hpart_46⟩ := hp
      try dsimp only at hpart_46
      have hP : va_P D vwCl [(h0, .inr (4, [.ref b0, .ref m0, .ref p0, .ref s0, .ref q0, .int (nI q), .int (nI sg), .int rp, .int lo, .int ea])), (p0, .inr (2, [.ref p1, .ref p2, .ref p3, .ref p4, .int (nI cnt2_46)])), (p1, .inl (cI, 25, .inl (nA f2_46))), (p2, .inl (cI, 24, .inl (nA lf2_46))), (p3, .inl (cI, 24, .inl C2_46)), (p4, .inl (cI, 24, .inl (nA ps2_46))), (m0, .inr (1, [.ref m1, .int (nI (n + 1))])), (m1, .inl (cI, 24, .inl (nA (updN t n j)))), (b0, .inr (0, [.ref b1, .ref b2, .int (nI k)])), (b1, .inl (cI, 32, .inl T)), (b2, .inl (cI, 8, .inl (nA Lf)))] H := hP
      refine W.eq (g2 := F0 mi 49 ls []) rfl ?_
      refine lv_aload_n hx hb dX4_write_49 rfl (lv_at hl 0 rfl) ?_
      refine va_get (v := .ref m0) hx hb hts hi_4 hown hK hP 0 rfl rfl 1 (by decide) f_19 (fun _ h => h) rfl dX4_write_50 ?_
      refine z_roV (As := []) (rest := []) ⟨hx, hb, hml, hown, hts⟩ (c_X1_size l D cI m0 m1 (n + 1)) (cwV 0 hts gX4_write_X1_size rfl rfl rfl hd_X1_size ⟨Nat.le_of_ble_eq_true rfl, Nat.le_of_ble_eq_true rfl⟩) ⟨hK, hE⟩ (hP.sub (ws' := [(m0, .inr (1, [.ref m1, .int (nI (n + 1))]))]) [6] rfl) (va_recv hK hP (ci := 1) (q0 := 6) rfl rfl) rfl hl.1 rfl (Nat.le_of_ble_eq_true rfl) dX4_write_53 (Nat.zero_le _) (Nat.zero_le _) ?_
      exact mu_iret hA hQ hx hb hr hlocks (f2_46, lf2_46, C2_46, ps2_46, cnt2_46) hP hS ⟨rfl, hpart_46⟩ dX4_write_56
    · exact absurd hn (by omega)
  · exact absurd ⟨j, hj, rfl⟩ c_4
set_option maxHeartbeats 4000000 in
set_option maxRecDepth 100000 in
theorem c_X4_strike (l : Launch) (D : va_G) (cI : ClassId) (h0 : Nat) (b0 : Nat) (m0 : Nat) (p0 : Nat) (s0 : Nat) (q0 : Nat) (q : Nat) (sg : Nat) (rp : Int32) (lo : Int32) (ea : Int32) (p1 : Nat) (p2 : Nat) (p3 : Nat) (p4 : Nat) (f : Nat → Nat) (lf : Nat → Nat) (C : Nat → Int32) (ps : Nat → Nat) (cnt : Nat) (m1 : Nat) (t : Nat → Nat) (n : Nat) (b1 : Nat) (b2 : Nat) (T : Nat → Int32) (Lf : Nat → Nat) (k : Nat) (hn : n ≤ 24) (hk : k ≤ 8) (hL : ∀ c, c < k → 2 ≤ Lf c ∧ Lf c ≤ 4) (hn0 : 0 < n) : MU l yX4_strike wsX4_strike rm_X4_strike D cI [(h0, .inr (4, [.ref b0, .ref m0, .ref p0, .ref s0, .ref q0, .int (nI q), .int (nI sg), .int rp, .int lo, .int ea])), (p0, .inr (2, [.ref p1, .ref p2, .ref p3, .ref p4, .int (nI cnt)])), (p1, .inl (cI, 25, .inl (nA f))), (p2, .inl (cI, 24, .inl (nA lf))), (p3, .inl (cI, 24, .inl C)), (p4, .inl (cI, 24, .inl (nA ps))), (m0, .inr (1, [.ref m1, .int (nI n)])), (m1, .inl (cI, 24, .inl (nA t))), (b0, .inr (0, [.ref b1, .ref b2, .int (nI k)])), (b1, .inl (cI, 32, .inl T)), (b2, .inl (cI, 8, .inl (nA Lf)))] [.ref h0] (fun (v9 : Option Value) (u9 : (Nat → Nat) × (Nat → Nat) × (Nat → Int32) × (Nat → Nat) × Nat) => v9 = some (.int (nI (t (n - 1)))) ∧ (PartC t (n - 1) T Lf k (-1) 0 0 u9.1 u9.2.1 u9.2.2.1 u9.2.2.2.1 u9.2.2.2.2)) (fun (u9 : (Nat → Nat) × (Nat → Nat) × (Nat → Int32) × (Nat → Nat) × Nat) => [(h0, .inr (4, [.ref b0, .ref m0, .ref p0, .ref s0, .ref q0, .int (nI q), .int (nI sg), .int rp, .int lo, .int ea])), (p0, .inr (2, [.ref p1, .ref p2, .ref p3, .ref p4, .int (nI u9.2.2.2.2)])), (p1, .inl (cI, 25, .inl (nA u9.1))), (p2, .inl (cI, 24, .inl (nA u9.2.1))), (p3, .inl (cI, 24, .inl u9.2.2.1)), (p4, .inl (cI, 24, .inl (nA u9.2.2.2.1))), (m0, .inr (1, [.ref m1, .int (nI (n - 1))])), (m1, .inl (cI, 24, .inl (nA t))), (b0, .inr (0, [.ref b1, .ref b2, .int (nI k)])), (b1, .inl (cI, 32, .inl T)), (b2, .inl (cI, 8, .inl (nA Lf)))]) := by
  refine mu_of (C := RX4) (cc := cX4_strike) (maxL := 2) (ret := (some .int)) rfl (by decide) rfl (Nat.le_of_ble_eq_true rfl) ?_
  intro pg ev sv mi ag bl mt cd ls Q A hA hQ hx hb hr hlocks hml hts hown hK hE hD H locs hP hS hl
  have hD : zDD A [h0, p0, p1, p2, p3, p4, m0, m1, b0, b1, b2] := hD
  have hl : lv_has ls 2 [(0, .ref h0)] := hl
  have f_19 := hts (.fieldLink RX4 19 "TelegraphDesk" "message" "LTelegraphDesk$Message;") (by decide +kernel)
  have hi_4 : ∀ w ∈ wsX40, w ∈ wsX4_strike := by decide +kernel
  refine lv_aload_n hx hb dX4_strike_0 rfl (lv_at hl 0 rfl) ?_
  refine va_get (v := .ref m0) hx hb hts hi_4 hown hK hP 0 rfl rfl 1 (by decide) f_19 (fun _ h => h) rfl dX4_strike_1 ?_
  refine z_roV (As := []) (rest := []) ⟨hx, hb, hml, hown, hts⟩ (c_X1_size l D cI m0 m1 n) (cwV 0 hts gX4_strike_X1_size rfl rfl rfl hd_X1_size ⟨Nat.le_of_ble_eq_true rfl, Nat.le_of_ble_eq_true rfl⟩) ⟨hK, hE⟩ (hP.sub (ws' := [(m0, .inr (1, [.ref m1, .int (nI n)]))]) [6] rfl) (va_recv hK hP (ci := 1) (q0 := 6) rfl rfl) rfl hl.1 rfl (Nat.le_of_ble_eq_true rfl) dX4_strike_4 (Nat.zero_le _) (Nat.zero_le _) ?_
  refine z_if_ne (tgt := 20) hx hb dX4_strike_7 (by decide) (by omega) (fun c_7 => ?_) (fun c_7 => ?_)
  · refine lv_aload_n hx hb dX4_strike_20 rfl (lv_at hl 0 rfl) ?_
    refine va_get (v := .ref m0) hx hb hts hi_4 hown hK hP 0 rfl rfl 1 (by decide) f_19 (fun _ h => h) rfl dX4_strike_21 ?_
    refine lv_aload_n hx hb dX4_strike_24 rfl (lv_at hl 0 rfl) ?_
    refine va_get (v := .ref m0) hx hb hts hi_4 hown hK hP 0 rfl rfl 1 (by decide) f_19 (fun _ h => h) rfl dX4_strike_25 ?_
    refine z_roV (As := []) (rest := [.ref m0]) ⟨hx, hb, hml, hown, hts⟩ (c_X1_size l D cI m0 m1 n) (cwV 0 hts gX4_strike_X1_size rfl rfl rfl hd_X1_size ⟨Nat.le_of_ble_eq_true rfl, Nat.le_of_ble_eq_true rfl⟩) ⟨hK, hE⟩ (hP.sub (ws' := [(m0, .inr (1, [.ref m1, .int (nI n)]))]) [6] rfl) (va_recv hK hP (ci := 1) (q0 := 6) rfl rfl) rfl hl.1 rfl (Nat.le_of_ble_eq_true rfl) dX4_strike_28 (Nat.zero_le _) (Nat.zero_le _) ?_
    refine lv_iconst (v := nI 1) hx hb dX4_strike_31 ci_1 ?_
    refine z_isub hx hb dX4_strike_32 (by omega) ?_
    refine z_roV (As := [.int (nI (n - 1))]) (rest := []) ⟨hx, hb, hml, hown, hts⟩ (c_X1_typeAt l D cI m0 m1 t n (n - 1) (by first | assumption | omega) (by first | assumption | omega)) (cwV 1 hts gX4_strike_X1_typeAt rfl rfl rfl hd_X1_typeAt ⟨Nat.le_of_ble_eq_true rfl, Nat.le_of_ble_eq_true rfl⟩) ⟨hK, hE⟩ (hP.sub (ws' := [(m0, .inr (1, [.ref m1, .int (nI n)])), (m1, .inl (cI, 24, .inl (nA t)))]) [6, 7] rfl) (va_recv hK hP (ci := 1) (q0 := 6) rfl rfl) rfl hl.1 rfl (Nat.le_of_ble_eq_true rfl) dX4_strike_33 (Nat.zero_le _) (Nat.zero_le _) ?_
    refine lv_istore_n (lv' := [(1, .int (nI (t (n - 1)))), (0, .ref h0)]) hx hb dX4_strike_36 rfl hl (by decide) rfl (fun ls hl => ?_)
    refine lv_aload_n hx hb dX4_strike_37 rfl (lv_at hl 1 rfl) ?_
    refine va_get (v := .ref m0) hx hb hts hi_4 hown hK hP 0 rfl rfl 1 (by decide) f_19 (fun _ h => h) rfl dX4_strike_38 ?_
    refine z_muV (As := []) (rest := []) ⟨hx, hb, hml, hown, hts⟩ (c_X1_removeLast l D cI m0 m1 t n (by first | assumption | omega) (by first | assumption | omega)) (cwV 0 hts gX4_strike_X1_removeLast rfl rfl rfl hd_X1_removeLast ⟨Nat.le_of_ble_eq_true rfl, Nat.le_of_ble_eq_true rfl⟩) ⟨hK, hE⟩ hP hD rfl hS [6, 7] (by decide) rfl (fun _ => rfl) (va_recv hK hP (ci := 1) (q0 := 6) rfl rfl) rfl hl.1 rfl (Nat.le_of_ble_eq_true rfl) dX4_strike_41 (Nat.zero_le _) (Nat.zero_le _) (fun v9 u9 H locs hp hP hS => ?_)
    obtain rfl := hp
    have hP : va_P D vwCl [(h0, .inr (4, [.ref b0, .ref m0, .ref p0, .ref s0, .ref q0, .int (nI q), .int (nI sg), .int rp, .int lo, .int ea])), (p0, .inr (2, [.ref p1, .ref p2, .ref p3, .ref p4, .int (nI cnt)])), (p1, .inl (cI, 25, .inl (nA f))), (p2, .inl (cI, 24, .inl (nA lf))), (p3, .inl (cI, 24, .inl C)), (p4, .inl (cI, 24, .inl (nA ps))), (m0, .inr (1, [.ref m1, .int (nI (n - 1))])), (m1, .inl (cI, 24, .inl (nA t))), (b0, .inr (0, [.ref b1, .ref b2, .int (nI k)])), (b1, .inl (cI, 32, .inl T)), (b2, .inl (cI, 8, .inl (nA Lf)))] H := hP
    refine W.eq (g2 := F0 mi 44 ls []) rfl ?_
    refine lv_aload_n hx hb dX4_strike_44 rfl (lv_at hl 1 rfl) ?_
    refine z_muV (As := []) (rest := []) ⟨hx, hb, hml, hown, hts⟩ (c_X4_shorten l D cI h0 b0 m0 p0 s0 q0 q sg rp lo ea p1 p2 p3 p4 f lf C ps cnt m1 t (n - 1) b1 b2 T Lf k (by first | assumption | omega) (by first | assumption | omega) (by first | assumption | omega)) (cwV 0 hts gX4_strike_X4_shorten rfl rfl rfl hd_X4_shorten ⟨Nat.le_of_ble_eq_true rfl, Nat.le_of_ble_eq_true rfl⟩) ⟨hK, hE⟩ hP hD rfl hS [0, 1, 2, 3, 4, 5, 6, 7, 8, 9, 10] (by decide) rfl (fun _ => rfl) (va_recv hK hP (ci := 4) (q0 := 0) rfl rfl) rfl hl.1 rfl (Nat.le_of_ble_eq_true rfl) dX4_strike_45 (Nat.zero_le _) (Nat.zero_le _) (fun v9 u9 H locs hp hP hS => ?_)
    obtain ⟨f2_45, lf2_45, C2_45, ps2_45, cnt2_45⟩ := u9
    obtain ⟨rfl, hpart_45⟩ := hp
    try dsimp only at hpart_45
    have hP : va_P D vwCl [(h0, .inr (4, [.ref b0, .ref m0, .ref p0, .ref s0, .ref q0, .int (nI q), .int (nI sg), .int rp, .int lo, .int ea])), (p0, .inr (2, [.ref p1, .ref p2, .ref p3, .ref p4, .int (nI cnt2_45)])), (p1, .inl (cI, 25, .inl (nA f2_45))), (p2, .inl (cI, 24, .inl (nA lf2_45))), (p3, .inl (cI, 24, .inl C2_45)), (p4, .inl (cI, 24, .inl (nA ps2_45))), (m0, .inr (1, [.ref m1, .int (nI (n - 1))])), (m1, .inl (cI, 24, .inl (nA t))), (b0, .inr (0, [.ref b1, .ref b2, .int (nI k)])), (b1, .inl (cI, 32, .inl T)), (b2, .inl (cI, 8, .inl (nA Lf)))] H := hP
    refine W.eq (g2 := F0 mi 48 ls []) rfl ?_
    refine lv_iload_n hx hb dX4_strike_48 rfl (lv_at hl 0 rfl) ?_
    exact mu_iret hA hQ hx hb hr hlocks (f2_45, lf2_45, C2_45, ps2_45, cnt2_45) hP hS ⟨rfl, hpart_45⟩ dX4_strike_49
  · exact absurd hn0 (by omega)
set_option maxHeartbeats 4000000 in
set_option maxRecDepth 100000 in
theorem c_X4_dropCode (l : Launch) (D : va_G) (cI : ClassId) (h0 : Nat) (b0 : Nat) (m0 : Nat) (p0 : Nat) (s0 : Nat) (q0 : Nat) (q : Nat) (sg : Nat) (rp : Int32) (lo : Int32) (ea : Int32) (p1 : Nat) (p2 : Nat) (p3 : Nat) (p4 : Nat) (f : Nat → Nat) (lf : Nat → Nat) (C : Nat → Int32) (ps : Nat → Nat) (cnt : Nat) (m1 : Nat) (t : Nat → Nat) (n : Nat) (b1 : Nat) (b2 : Nat) (T : Nat → Int32) (Lf : Nat → Nat) (k : Nat) (j : Nat) (hn : n ≤ 24) (hk : k ≤ 8) (hL : ∀ c, c < k → 2 ≤ Lf c ∧ Lf c ≤ 4) (hj : j < k) : MU l yX4_dropCode wsX4_dropCode rm_X4_dropCode D cI [(h0, .inr (4, [.ref b0, .ref m0, .ref p0, .ref s0, .ref q0, .int (nI q), .int (nI sg), .int rp, .int lo, .int ea])), (p0, .inr (2, [.ref p1, .ref p2, .ref p3, .ref p4, .int (nI cnt)])), (p1, .inl (cI, 25, .inl (nA f))), (p2, .inl (cI, 24, .inl (nA lf))), (p3, .inl (cI, 24, .inl C)), (p4, .inl (cI, 24, .inl (nA ps))), (m0, .inr (1, [.ref m1, .int (nI n)])), (m1, .inl (cI, 24, .inl (nA t))), (b0, .inr (0, [.ref b1, .ref b2, .int (nI k)])), (b1, .inl (cI, 32, .inl T)), (b2, .inl (cI, 8, .inl (nA Lf)))] [.ref h0, .int (nI j)] (fun (v9 : Option Value) (u9 : (Nat → Nat) × (Nat → Nat) × (Nat → Int32) × (Nat → Nat) × Nat) => v9 = some (.int (nI (Lf j))) ∧ (PartC t n (dcT T k j) (dcL Lf k j) (k - 1) (-1) 0 0 u9.1 u9.2.1 u9.2.2.1 u9.2.2.2.1 u9.2.2.2.2)) (fun (u9 : (Nat → Nat) × (Nat → Nat) × (Nat → Int32) × (Nat → Nat) × Nat) => [(h0, .inr (4, [.ref b0, .ref m0, .ref p0, .ref s0, .ref q0, .int (nI q), .int (nI sg), .int rp, .int lo, .int ea])), (p0, .inr (2, [.ref p1, .ref p2, .ref p3, .ref p4, .int (nI u9.2.2.2.2)])), (p1, .inl (cI, 25, .inl (nA u9.1))), (p2, .inl (cI, 24, .inl (nA u9.2.1))), (p3, .inl (cI, 24, .inl u9.2.2.1)), (p4, .inl (cI, 24, .inl (nA u9.2.2.2.1))), (m0, .inr (1, [.ref m1, .int (nI n)])), (m1, .inl (cI, 24, .inl (nA t))), (b0, .inr (0, [.ref b1, .ref b2, .int (nI (k - 1))])), (b1, .inl (cI, 32, .inl (dcT T k j))), (b2, .inl (cI, 8, .inl (nA (dcL Lf k j))))]) := by
  refine mu_of (C := RX4) (cc := cX4_dropCode) (maxL := 3) (ret := (some .int)) rfl (by decide) rfl (Nat.le_of_ble_eq_true rfl) ?_
  intro pg ev sv mi ag bl mt cd ls Q A hA hQ hx hb hr hlocks hml hts hown hK hE hD H locs hP hS hl
  have hD : zDD A [h0, p0, p1, p2, p3, p4, m0, m1, b0, b1, b2] := hD
  have hl : lv_has ls 3 [(0, .ref h0), (1, .int (nI j))] := hl
  have f_10 := hts (.fieldLink RX4 10 "TelegraphDesk" "book" "LTelegraphDesk$CodeBook;") (by decide +kernel)
  have hi_4 : ∀ w ∈ wsX40, w ∈ wsX4_dropCode := by decide +kernel
  refine lv_aload_n hx hb dX4_dropCode_0 rfl (lv_at hl 0 rfl) ?_
  refine va_get (v := .ref b0) hx hb hts hi_4 hown hK hP 0 rfl rfl 0 (by decide) f_10 (fun _ h => h) rfl dX4_dropCode_1 ?_
  refine lv_iload_n hx hb dX4_dropCode_4 rfl (lv_at hl 1 rfl) ?_
  refine z_roV (As := [.int (nI j)]) (rest := []) ⟨hx, hb, hml, hown, hts⟩ (c_X0_has l D cI b0 b1 b2 k j (by first | assumption | omega) (by first | assumption | omega)) (cwV 1 hts gX4_dropCode_X0_has rfl rfl rfl hd_X0_has ⟨Nat.le_of_ble_eq_true rfl, Nat.le_of_ble_eq_true rfl⟩) ⟨hK, hE⟩ (hP.sub (ws' := [(b0, .inr (0, [.ref b1, .ref b2, .int (nI k)]))]) [8] rfl) (va_recv hK hP (ci := 0) (q0 := 8) rfl rfl) rfl hl.1 rfl (Nat.le_of_ble_eq_true rfl) dX4_dropCode_5 (Nat.zero_le _) (Nat.zero_le _) ?_
  refine z_if_neP (tgt := 21) hx hb dX4_dropCode_8 (by decide) (fun c_8 => ?_) (fun c_8 => ?_)
  · refine lv_aload_n hx hb dX4_dropCode_21 rfl (lv_at hl 0 rfl) ?_
    refine va_get (v := .ref b0) hx hb hts hi_4 hown hK hP 0 rfl rfl 0 (by decide) f_10 (fun _ h => h) rfl dX4_dropCode_22 ?_
    refine lv_iload_n hx hb dX4_dropCode_25 rfl (lv_at hl 1 rfl) ?_
    refine z_roV (As := [.int (nI j)]) (rest := []) ⟨hx, hb, hml, hown, hts⟩ (c_X0_wordsIn l D cI b0 b1 b2 T Lf k j (by first | assumption | omega) (by first | assumption | omega)) (cwV 1 hts gX4_dropCode_X0_wordsIn rfl rfl rfl hd_X0_wordsIn ⟨Nat.le_of_ble_eq_true rfl, Nat.le_of_ble_eq_true rfl⟩) ⟨hK, hE⟩ (hP.sub (ws' := [(b0, .inr (0, [.ref b1, .ref b2, .int (nI k)])), (b1, .inl (cI, 32, .inl T)), (b2, .inl (cI, 8, .inl (nA Lf)))]) [8, 9, 10] rfl) (va_recv hK hP (ci := 0) (q0 := 8) rfl rfl) rfl hl.1 rfl (Nat.le_of_ble_eq_true rfl) dX4_dropCode_26 (Nat.zero_le _) (Nat.zero_le _) ?_
    refine lv_istore_n (lv' := [(2, .int (nI (Lf j))), (0, .ref h0), (1, .int (nI j))]) hx hb dX4_dropCode_29 rfl hl (by decide) rfl (fun ls hl => ?_)
    refine lv_aload_n hx hb dX4_dropCode_30 rfl (lv_at hl 1 rfl) ?_
    refine va_get (v := .ref b0) hx hb hts hi_4 hown hK hP 0 rfl rfl 0 (by decide) f_10 (fun _ h => h) rfl dX4_dropCode_31 ?_
    refine lv_iload_n hx hb dX4_dropCode_34 rfl (lv_at hl 2 rfl) ?_
    refine z_muV (As := [.int (nI j)]) (rest := []) ⟨hx, hb, hml, hown, hts⟩ (c_X0_remove l D cI b0 b1 b2 T Lf k j (by first | assumption | omega) (by first | assumption | omega)) (cwV 1 hts gX4_dropCode_X0_remove rfl rfl rfl hd_X0_remove ⟨Nat.le_of_ble_eq_true rfl, Nat.le_of_ble_eq_true rfl⟩) ⟨hK, hE⟩ hP hD rfl hS [8, 9, 10] (by decide) rfl (fun _ => rfl) (va_recv hK hP (ci := 0) (q0 := 8) rfl rfl) rfl hl.1 rfl (Nat.le_of_ble_eq_true rfl) dX4_dropCode_35 (Nat.zero_le _) (Nat.zero_le _) (fun v9 u9 H locs hp hP hS => ?_)
    obtain rfl := hp
    have hP : va_P D vwCl [(h0, .inr (4, [.ref b0, .ref m0, .ref p0, .ref s0, .ref q0, .int (nI q), .int (nI sg), .int rp, .int lo, .int ea])), (p0, .inr (2, [.ref p1, .ref p2, .ref p3, .ref p4, .int (nI cnt)])), (p1, .inl (cI, 25, .inl (nA f))), (p2, .inl (cI, 24, .inl (nA lf))), (p3, .inl (cI, 24, .inl C)), (p4, .inl (cI, 24, .inl (nA ps))), (m0, .inr (1, [.ref m1, .int (nI n)])), (m1, .inl (cI, 24, .inl (nA t))), (b0, .inr (0, [.ref b1, .ref b2, .int (nI (k - 1))])), (b1, .inl (cI, 32, .inl (va_cpy T T ((j + 1) * 4) (j * 4) ((k - j - 1) * 4)))), (b2, .inl (cI, 8, .inl (nA (va_cpy Lf Lf (j + 1) j (k - j - 1)))))] H := hP
    refine W.eq (g2 := F0 mi 38 ls []) rfl ?_
    refine lv_aload_n hx hb dX4_dropCode_38 rfl (lv_at hl 1 rfl) ?_
    refine z_muV (As := []) (rest := []) ⟨hx, hb, hml, hown, hts⟩ (c_X4_shorten l D cI h0 b0 m0 p0 s0 q0 q sg rp lo ea p1 p2 p3 p4 f lf C ps cnt m1 t n b1 b2 (va_cpy T T ((j + 1) * 4) (j * 4) ((k - j - 1) * 4)) (va_cpy Lf Lf (j + 1) j (k - j - 1)) (k - 1) (by first | assumption | omega) (by first | assumption | omega) (dc_L hL)) (cwV 0 hts gX4_dropCode_X4_shorten rfl rfl rfl hd_X4_shorten ⟨Nat.le_of_ble_eq_true rfl, Nat.le_of_ble_eq_true rfl⟩) ⟨hK, hE⟩ hP hD rfl hS [0, 1, 2, 3, 4, 5, 6, 7, 8, 9, 10] (by decide) rfl (fun _ => rfl) (va_recv hK hP (ci := 4) (q0 := 0) rfl rfl) rfl hl.1 rfl (Nat.le_of_ble_eq_true rfl) dX4_dropCode_39 (Nat.zero_le _) (Nat.zero_le _) (fun v9 u9 H locs hp hP hS => ?_)
    obtain ⟨f2_39, lf2_39, C2_39, ps2_39, cnt2_39⟩ := u9
    obtain ⟨rfl, hpart_39⟩ := hp
    try dsimp only at hpart_39
    have hP : va_P D vwCl [(h0, .inr (4, [.ref b0, .ref m0, .ref p0, .ref s0, .ref q0, .int (nI q), .int (nI sg), .int rp, .int lo, .int ea])), (p0, .inr (2, [.ref p1, .ref p2, .ref p3, .ref p4, .int (nI cnt2_39)])), (p1, .inl (cI, 25, .inl (nA f2_39))), (p2, .inl (cI, 24, .inl (nA lf2_39))), (p3, .inl (cI, 24, .inl C2_39)), (p4, .inl (cI, 24, .inl (nA ps2_39))), (m0, .inr (1, [.ref m1, .int (nI n)])), (m1, .inl (cI, 24, .inl (nA t))), (b0, .inr (0, [.ref b1, .ref b2, .int (nI (k - 1))])), (b1, .inl (cI, 32, .inl (va_cpy T T ((j + 1) * 4) (j * 4) ((k - j - 1) * 4)))), (b2, .inl (cI, 8, .inl (nA (va_cpy Lf Lf (j + 1) j (k - j - 1)))))] H := hP
    refine W.eq (g2 := F0 mi 42 ls []) rfl ?_
    refine lv_iload_n hx hb dX4_dropCode_42 rfl (lv_at hl 0 rfl) ?_
    exact mu_iret hA hQ hx hb hr hlocks (f2_39, lf2_39, C2_39, ps2_39, cnt2_39) hP hS ⟨rfl, hpart_39⟩ dX4_dropCode_43
  · exact absurd hj c_8
set_option maxHeartbeats 4000000 in
set_option maxRecDepth 100000 in
theorem c_X4_addCode (l : Launch) (D : va_G) (cI : ClassId) (h0 : Nat) (b0 : Nat) (m0 : Nat) (p0 : Nat) (s0 : Nat) (q0 : Nat) (q : Nat) (sg : Nat) (rp : Int32) (lo : Int32) (ea : Int32) (p1 : Nat) (p2 : Nat) (p3 : Nat) (p4 : Nat) (f : Nat → Nat) (lf : Nat → Nat) (C : Nat → Int32) (ps : Nat → Nat) (cnt : Nat) (m1 : Nat) (t : Nat → Nat) (n : Nat) (b1 : Nat) (b2 : Nat) (T : Nat → Int32) (Lf : Nat → Nat) (k : Nat) (x1 : Int32) (x2 : Int32) (x3 : Int32) (x4 : Int32) (hn : n ≤ 24) (hk : k ≤ 8) (hL : ∀ c, c < k → 2 ≤ Lf c ∧ Lf c ≤ 4) (hnb : ¬ acBad x1 x2 x3 x4) (hnd : ¬ acDup T k x1 x2 x3 x4) : MU l yX4_addCode wsX4_addCode rm_X4_addCode D cI [(h0, .inr (4, [.ref b0, .ref m0, .ref p0, .ref s0, .ref q0, .int (nI q), .int (nI sg), .int rp, .int lo, .int ea])), (p0, .inr (2, [.ref p1, .ref p2, .ref p3, .ref p4, .int (nI cnt)])), (p1, .inl (cI, 25, .inl (nA f))), (p2, .inl (cI, 24, .inl (nA lf))), (p3, .inl (cI, 24, .inl C)), (p4, .inl (cI, 24, .inl (nA ps))), (m0, .inr (1, [.ref m1, .int (nI n)])), (m1, .inl (cI, 24, .inl (nA t))), (b0, .inr (0, [.ref b1, .ref b2, .int (nI k)])), (b1, .inl (cI, 32, .inl T)), (b2, .inl (cI, 8, .inl (nA Lf)))] [.ref h0, .int x1, .int x2, .int x3, .int x4] (fun (v9 : Option Value) (u9 : (Nat → Nat) × (Nat → Nat) × (Nat → Int32) × (Nat → Nat) × Nat) => v9 = some (.int (nI k)) ∧ (PartC t n (acT T k x1 x2 x3 x4) (updN Lf k (clen x3 x4)) (k + 1) (-1) 0 0 u9.1 u9.2.1 u9.2.2.1 u9.2.2.2.1 u9.2.2.2.2)) (fun (u9 : (Nat → Nat) × (Nat → Nat) × (Nat → Int32) × (Nat → Nat) × Nat) => [(h0, .inr (4, [.ref b0, .ref m0, .ref p0, .ref s0, .ref q0, .int (nI q), .int (nI sg), .int rp, .int lo, .int ea])), (p0, .inr (2, [.ref p1, .ref p2, .ref p3, .ref p4, .int (nI u9.2.2.2.2)])), (p1, .inl (cI, 25, .inl (nA u9.1))), (p2, .inl (cI, 24, .inl (nA u9.2.1))), (p3, .inl (cI, 24, .inl u9.2.2.1)), (p4, .inl (cI, 24, .inl (nA u9.2.2.2.1))), (m0, .inr (1, [.ref m1, .int (nI n)])), (m1, .inl (cI, 24, .inl (nA t))), (b0, .inr (0, [.ref b1, .ref b2, .int (nI (k + 1))])), (b1, .inl (cI, 32, .inl (acT T k x1 x2 x3 x4))), (b2, .inl (cI, 8, .inl (nA (updN Lf k (clen x3 x4)))))]) := by
  refine mu_of (C := RX4) (cc := cX4_addCode) (maxL := 5) (ret := (some .int)) rfl (by decide) rfl (Nat.le_of_ble_eq_true rfl) ?_
  intro pg ev sv mi ag bl mt cd ls Q A hA hQ hx hb hr hlocks hml hts hown hK hE hD H locs hP hS hl
  have hD : zDD A [h0, p0, p1, p2, p3, p4, m0, m1, b0, b1, b2] := hD
  have hl : lv_has ls 5 [(0, .ref h0), (1, .int x1), (2, .int x2), (3, .int x3), (4, .int x4)] := hl
  have f_10 := hts (.fieldLink RX4 10 "TelegraphDesk" "book" "LTelegraphDesk$CodeBook;") (by decide +kernel)
  have hi_4 : ∀ w ∈ wsX40, w ∈ wsX4_addCode := by decide +kernel
  refine lv_iload_n hx hb dX4_addCode_0 rfl (lv_at hl 1 rfl) ?_
  refine z_roS (As := [.int x1]) (rest := []) ⟨hx, hb, hml, hown, hts⟩ (c_X4_isType l D cI x1) (va_cwS 1 hts gX4_addCode_X4_isType rfl rfl rfl hd_X4_isType ⟨Nat.le_of_ble_eq_true rfl, Nat.le_of_ble_eq_true rfl⟩) ⟨hK, hE⟩ (va_P_nil _ _ _) rfl hl.1 rfl (Nat.le_of_ble_eq_true rfl) dX4_addCode_1 (Nat.zero_le _) (Nat.zero_le _) ?_
  refine z_if_eqP (tgt := 14) hx hb dX4_addCode_4 (by decide) (fun c_4 => ?_) (fun c_4 => ?_)
  · exact absurd (Or.inl (by first | exact Or.inl c_4 | exact Or.inr c_11)) hnb
  · refine lv_iload_n hx hb dX4_addCode_7 rfl (lv_at hl 2 rfl) ?_
    refine z_roS (As := [.int x2]) (rest := []) ⟨hx, hb, hml, hown, hts⟩ (c_X4_isType l D cI x2) (va_cwS 1 hts gX4_addCode_X4_isType rfl rfl rfl hd_X4_isType ⟨Nat.le_of_ble_eq_true rfl, Nat.le_of_ble_eq_true rfl⟩) ⟨hK, hE⟩ (va_P_nil _ _ _) rfl hl.1 rfl (Nat.le_of_ble_eq_true rfl) dX4_addCode_8 (Nat.zero_le _) (Nat.zero_le _) ?_
    refine z_if_neP (tgt := 24) hx hb dX4_addCode_11 (by decide) (fun c_11 => ?_) (fun c_11 => ?_)
    · refine lv_iload_n hx hb dX4_addCode_24 rfl (lv_at hl 3 rfl) ?_
      refine z_roS (As := [.int x3]) (rest := []) ⟨hx, hb, hml, hown, hts⟩ (c_X4_isTypeOrNone l D cI x3) (va_cwS 1 hts gX4_addCode_X4_isTypeOrNone rfl rfl rfl hd_X4_isTypeOrNone ⟨Nat.le_of_ble_eq_true rfl, Nat.le_of_ble_eq_true rfl⟩) ⟨hK, hE⟩ (va_P_nil _ _ _) rfl hl.1 rfl (Nat.le_of_ble_eq_true rfl) dX4_addCode_25 (Nat.zero_le _) (Nat.zero_le _) ?_
      refine z_if_eqP (tgt := 39) hx hb dX4_addCode_28 (by decide) (fun c_28 => ?_) (fun c_28 => ?_)
      · exact absurd (Or.inr (Or.inl (by first | exact Or.inl c_28 | exact Or.inr c_36))) hnb
      · refine lv_iload hx hb dX4_addCode_31 (lv_at hl 4 rfl) ?_
        refine z_roS (As := [.int x4]) (rest := []) ⟨hx, hb, hml, hown, hts⟩ (c_X4_isTypeOrNone l D cI x4) (va_cwS 1 hts gX4_addCode_X4_isTypeOrNone rfl rfl rfl hd_X4_isTypeOrNone ⟨Nat.le_of_ble_eq_true rfl, Nat.le_of_ble_eq_true rfl⟩) ⟨hK, hE⟩ (va_P_nil _ _ _) rfl hl.1 rfl (Nat.le_of_ble_eq_true rfl) dX4_addCode_33 (Nat.zero_le _) (Nat.zero_le _) ?_
        refine z_if_neP (tgt := 49) hx hb dX4_addCode_36 (by decide) (fun c_36 => ?_) (fun c_36 => ?_)
        · refine lv_iload_n hx hb dX4_addCode_49 rfl (lv_at hl 3 rfl) ?_
          refine lv_iconst (v := -1) hx hb dX4_addCode_50 ci_m1 ?_
          refine lv_icmp_ne (tgt := 70) hx hb dX4_addCode_51 (by decide) (fun c_51 => ?_) (fun c_51 => ?_)
          · refine lv_aload_n hx hb dX4_addCode_70 rfl (lv_at hl 0 rfl) ?_
            refine va_get (v := .ref b0) hx hb hts hi_4 hown hK hP 0 rfl rfl 0 (by decide) f_10 (fun _ h => h) rfl dX4_addCode_71 ?_
            refine z_roV (As := []) (rest := []) ⟨hx, hb, hml, hown, hts⟩ (c_X0_isFull l D cI b0 b1 b2 k (by first | assumption | omega)) (cwV 0 hts gX4_addCode_X0_isFull rfl rfl rfl hd_X0_isFull ⟨Nat.le_of_ble_eq_true rfl, Nat.le_of_ble_eq_true rfl⟩) ⟨hK, hE⟩ (hP.sub (ws' := [(b0, .inr (0, [.ref b1, .ref b2, .int (nI k)]))]) [8] rfl) (va_recv hK hP (ci := 0) (q0 := 8) rfl rfl) rfl hl.1 rfl (Nat.le_of_ble_eq_true rfl) dX4_addCode_74 (Nat.zero_le _) (Nat.zero_le _) ?_
            refine z_if_eqP (tgt := 90) hx hb dX4_addCode_77 (by decide) (fun c_77 => ?_) (fun c_77 => ?_)
            · refine lv_aload_n hx hb dX4_addCode_90 rfl (lv_at hl 0 rfl) ?_
              refine va_get (v := .ref b0) hx hb hts hi_4 hown hK hP 0 rfl rfl 0 (by decide) f_10 (fun _ h => h) rfl dX4_addCode_91 ?_
              refine lv_iload_n hx hb dX4_addCode_94 rfl (lv_at hl 1 rfl) ?_
              refine lv_iload_n hx hb dX4_addCode_95 rfl (lv_at hl 2 rfl) ?_
              refine lv_iload_n hx hb dX4_addCode_96 rfl (lv_at hl 3 rfl) ?_
              refine lv_iload hx hb dX4_addCode_97 (lv_at hl 4 rfl) ?_
              refine z_roV (As := [.int x1, .int x2, .int x3, .int x4]) (rest := []) ⟨hx, hb, hml, hown, hts⟩ (c_X0_holds l D cI b0 b1 b2 T Lf k x1 x2 x3 x4 (by first | assumption | omega)) (cwV 4 hts gX4_addCode_X0_holds rfl rfl rfl hd_X0_holds ⟨Nat.le_of_ble_eq_true rfl, Nat.le_of_ble_eq_true rfl⟩) ⟨hK, hE⟩ (hP.sub (ws' := [(b0, .inr (0, [.ref b1, .ref b2, .int (nI k)])), (b1, .inl (cI, 32, .inl T)), (b2, .inl (cI, 8, .inl (nA Lf)))]) [8, 9, 10] rfl) (va_recv hK hP (ci := 0) (q0 := 8) rfl rfl) rfl hl.1 rfl (Nat.le_of_ble_eq_true rfl) dX4_addCode_99 (Nat.zero_le _) (Nat.zero_le _) ?_
              refine z_if_eqP (tgt := 115) hx hb dX4_addCode_102 (by decide) (fun c_102 => ?_) (fun c_102 => ?_)
              · refine lv_aload_n hx hb dX4_addCode_115 rfl (lv_at hl 0 rfl) ?_
                refine va_get (v := .ref b0) hx hb hts hi_4 hown hK hP 0 rfl rfl 0 (by decide) f_10 (fun _ h => h) rfl dX4_addCode_116 ?_
                refine lv_iload_n hx hb dX4_addCode_119 rfl (lv_at hl 1 rfl) ?_
                refine lv_iload_n hx hb dX4_addCode_120 rfl (lv_at hl 2 rfl) ?_
                refine lv_iload_n hx hb dX4_addCode_121 rfl (lv_at hl 3 rfl) ?_
                refine lv_iload hx hb dX4_addCode_122 (lv_at hl 4 rfl) ?_
                refine z_muV (As := [.int x1, .int x2, .int x3, .int x4]) (rest := []) ⟨hx, hb, hml, hown, hts⟩ (c_X0_append l D cI b0 b1 b2 T Lf k x1 x2 x3 x4 (by omega)) (cwV 4 hts gX4_addCode_X0_append rfl rfl rfl hd_X0_append ⟨Nat.le_of_ble_eq_true rfl, Nat.le_of_ble_eq_true rfl⟩) ⟨hK, hE⟩ hP hD rfl hS [8, 9, 10] (by decide) rfl (fun _ => rfl) (va_recv hK hP (ci := 0) (q0 := 8) rfl rfl) rfl hl.1 rfl (Nat.le_of_ble_eq_true rfl) dX4_addCode_124 (Nat.zero_le _) (Nat.zero_le _) (fun v9 u9 H locs hp hP hS => ?_)
                obtain ⟨Lf2_124, rfl⟩ : ∃ z, z = u9 := ⟨_, rfl⟩
                obtain ⟨rfl, d_Lf2_124⟩ := hp
                try dsimp only at d_Lf2_124
                subst d_Lf2_124
                have hP : va_P D vwCl [(h0, .inr (4, [.ref b0, .ref m0, .ref p0, .ref s0, .ref q0, .int (nI q), .int (nI sg), .int rp, .int lo, .int ea])), (p0, .inr (2, [.ref p1, .ref p2, .ref p3, .ref p4, .int (nI cnt)])), (p1, .inl (cI, 25, .inl (nA f))), (p2, .inl (cI, 24, .inl (nA lf))), (p3, .inl (cI, 24, .inl C)), (p4, .inl (cI, 24, .inl (nA ps))), (m0, .inr (1, [.ref m1, .int (nI n)])), (m1, .inl (cI, 24, .inl (nA t))), (b0, .inr (0, [.ref b1, .ref b2, .int (nI (k + 1))])), (b1, .inl (cI, 32, .inl (upd (upd (upd (upd T (k * 4) x1) (k * 4 + 1) x2) (k * 4 + 2) x3) (k * 4 + 3) x4))), (b2, .inl (cI, 8, .inl (nA (updN Lf k (clen x3 x4)))))] H := hP
                refine W.eq (g2 := F0 mi 127 ls []) rfl ?_
                refine lv_aload_n hx hb dX4_addCode_127 rfl (lv_at hl 0 rfl) ?_
                refine z_muV (As := []) (rest := []) ⟨hx, hb, hml, hown, hts⟩ (c_X4_shorten l D cI h0 b0 m0 p0 s0 q0 q sg rp lo ea p1 p2 p3 p4 f lf C ps cnt m1 t n b1 b2 (upd (upd (upd (upd T (k * 4) x1) (k * 4 + 1) x2) (k * 4 + 2) x3) (k * 4 + 3) x4) (updN Lf k (clen x3 x4)) (k + 1) (by first | assumption | omega) (by omega) (ac_L hL)) (cwV 0 hts gX4_addCode_X4_shorten rfl rfl rfl hd_X4_shorten ⟨Nat.le_of_ble_eq_true rfl, Nat.le_of_ble_eq_true rfl⟩) ⟨hK, hE⟩ hP hD rfl hS [0, 1, 2, 3, 4, 5, 6, 7, 8, 9, 10] (by decide) rfl (fun _ => rfl) (va_recv hK hP (ci := 4) (q0 := 0) rfl rfl) rfl hl.1 rfl (Nat.le_of_ble_eq_true rfl) dX4_addCode_128 (Nat.zero_le _) (Nat.zero_le _) (fun v9 u9 H locs hp hP hS => ?_)
                obtain ⟨f2_128, lf2_128, C2_128, ps2_128, cnt2_128⟩ := u9
                obtain ⟨rfl, hpart_128⟩ := hp
                try dsimp only at hpart_128
                have hP : va_P D vwCl [(h0, .inr (4, [.ref b0, .ref m0, .ref p0, .ref s0, .ref q0, .int (nI q), .int (nI sg), .int rp, .int lo, .int ea])), (p0, .inr (2, [.ref p1, .ref p2, .ref p3, .ref p4, .int (nI cnt2_128)])), (p1, .inl (cI, 25, .inl (nA f2_128))), (p2, .inl (cI, 24, .inl (nA lf2_128))), (p3, .inl (cI, 24, .inl C2_128)), (p4, .inl (cI, 24, .inl (nA ps2_128))), (m0, .inr (1, [.ref m1, .int (nI n)])), (m1, .inl (cI, 24, .inl (nA t))), (b0, .inr (0, [.ref b1, .ref b2, .int (nI (k + 1))])), (b1, .inl (cI, 32, .inl (upd (upd (upd (upd T (k * 4) x1) (k * 4 + 1) x2) (k * 4 + 2) x3) (k * 4 + 3) x4))), (b2, .inl (cI, 8, .inl (nA (updN Lf k (clen x3 x4)))))] H := hP
                refine W.eq (g2 := F0 mi 131 ls []) rfl ?_
                refine lv_aload_n hx hb dX4_addCode_131 rfl (lv_at hl 0 rfl) ?_
                refine va_get (v := .ref b0) hx hb hts hi_4 hown hK hP 0 rfl rfl 0 (by decide) f_10 (fun _ h => h) rfl dX4_addCode_132 ?_
                refine z_roV (As := []) (rest := []) ⟨hx, hb, hml, hown, hts⟩ (c_X0_size l D cI b0 b1 b2 (k + 1)) (cwV 0 hts gX4_addCode_X0_size rfl rfl rfl hd_X0_size ⟨Nat.le_of_ble_eq_true rfl, Nat.le_of_ble_eq_true rfl⟩) ⟨hK, hE⟩ (hP.sub (ws' := [(b0, .inr (0, [.ref b1, .ref b2, .int (nI (k + 1))]))]) [8] rfl) (va_recv hK hP (ci := 0) (q0 := 8) rfl rfl) rfl hl.1 rfl (Nat.le_of_ble_eq_true rfl) dX4_addCode_135 (Nat.zero_le _) (Nat.zero_le _) ?_
                refine lv_iconst (v := nI 1) hx hb dX4_addCode_138 ci_1 ?_
                refine z_isub hx hb dX4_addCode_139 (by omega) ?_
                exact mu_iret hA hQ hx hb hr hlocks (f2_128, lf2_128, C2_128, ps2_128, cnt2_128) hP hS ⟨rfl, hpart_128⟩ dX4_addCode_140
              · exact absurd (Or.inr c_102) hnd
            · exact absurd (Or.inl c_77) hnd
          · refine lv_iload hx hb dX4_addCode_54 (lv_at hl 4 rfl) ?_
            refine lv_iconst (v := -1) hx hb dX4_addCode_56 ci_m1 ?_
            refine lv_icmp_eq (tgt := 70) hx hb dX4_addCode_57 (by decide) (fun c_57 => ?_) (fun c_57 => ?_)
            · refine lv_aload_n hx hb dX4_addCode_70 rfl (lv_at hl 0 rfl) ?_
              refine va_get (v := .ref b0) hx hb hts hi_4 hown hK hP 0 rfl rfl 0 (by decide) f_10 (fun _ h => h) rfl dX4_addCode_71 ?_
              refine z_roV (As := []) (rest := []) ⟨hx, hb, hml, hown, hts⟩ (c_X0_isFull l D cI b0 b1 b2 k (by first | assumption | omega)) (cwV 0 hts gX4_addCode_X0_isFull rfl rfl rfl hd_X0_isFull ⟨Nat.le_of_ble_eq_true rfl, Nat.le_of_ble_eq_true rfl⟩) ⟨hK, hE⟩ (hP.sub (ws' := [(b0, .inr (0, [.ref b1, .ref b2, .int (nI k)]))]) [8] rfl) (va_recv hK hP (ci := 0) (q0 := 8) rfl rfl) rfl hl.1 rfl (Nat.le_of_ble_eq_true rfl) dX4_addCode_74 (Nat.zero_le _) (Nat.zero_le _) ?_
              refine z_if_eqP (tgt := 90) hx hb dX4_addCode_77 (by decide) (fun c_77 => ?_) (fun c_77 => ?_)
              · refine lv_aload_n hx hb dX4_addCode_90 rfl (lv_at hl 0 rfl) ?_
                refine va_get (v := .ref b0) hx hb hts hi_4 hown hK hP 0 rfl rfl 0 (by decide) f_10 (fun _ h => h) rfl dX4_addCode_91 ?_
                refine lv_iload_n hx hb dX4_addCode_94 rfl (lv_at hl 1 rfl) ?_
                refine lv_iload_n hx hb dX4_addCode_95 rfl (lv_at hl 2 rfl) ?_
                refine lv_iload_n hx hb dX4_addCode_96 rfl (lv_at hl 3 rfl) ?_
                refine lv_iload hx hb dX4_addCode_97 (lv_at hl 4 rfl) ?_
                refine z_roV (As := [.int x1, .int x2, .int x3, .int x4]) (rest := []) ⟨hx, hb, hml, hown, hts⟩ (c_X0_holds l D cI b0 b1 b2 T Lf k x1 x2 x3 x4 (by first | assumption | omega)) (cwV 4 hts gX4_addCode_X0_holds rfl rfl rfl hd_X0_holds ⟨Nat.le_of_ble_eq_true rfl, Nat.le_of_ble_eq_true rfl⟩) ⟨hK, hE⟩ (hP.sub (ws' := [(b0, .inr (0, [.ref b1, .ref b2, .int (nI k)])), (b1, .inl (cI, 32, .inl T)), (b2, .inl (cI, 8, .inl (nA Lf)))]) [8, 9, 10] rfl) (va_recv hK hP (ci := 0) (q0 := 8) rfl rfl) rfl hl.1 rfl (Nat.le_of_ble_eq_true rfl) dX4_addCode_99 (Nat.zero_le _) (Nat.zero_le _) ?_
                refine z_if_eqP (tgt := 115) hx hb dX4_addCode_102 (by decide) (fun c_102 => ?_) (fun c_102 => ?_)
                · refine lv_aload_n hx hb dX4_addCode_115 rfl (lv_at hl 0 rfl) ?_
                  refine va_get (v := .ref b0) hx hb hts hi_4 hown hK hP 0 rfl rfl 0 (by decide) f_10 (fun _ h => h) rfl dX4_addCode_116 ?_
                  refine lv_iload_n hx hb dX4_addCode_119 rfl (lv_at hl 1 rfl) ?_
                  refine lv_iload_n hx hb dX4_addCode_120 rfl (lv_at hl 2 rfl) ?_
                  refine lv_iload_n hx hb dX4_addCode_121 rfl (lv_at hl 3 rfl) ?_
                  refine lv_iload hx hb dX4_addCode_122 (lv_at hl 4 rfl) ?_
                  refine z_muV (As := [.int x1, .int x2, .int x3, .int x4]) (rest := []) ⟨hx, hb, hml, hown, hts⟩ (c_X0_append l D cI b0 b1 b2 T Lf k x1 x2 x3 x4 (by omega)) (cwV 4 hts gX4_addCode_X0_append rfl rfl rfl hd_X0_append ⟨Nat.le_of_ble_eq_true rfl, Nat.le_of_ble_eq_true rfl⟩) ⟨hK, hE⟩ hP hD rfl hS [8, 9, 10] (by decide) rfl (fun _ => rfl) (va_recv hK hP (ci := 0) (q0 := 8) rfl rfl) rfl hl.1 rfl (Nat.le_of_ble_eq_true rfl) dX4_addCode_124 (Nat.zero_le _) (Nat.zero_le _) (fun v9 u9 H locs hp hP hS => ?_)
                  obtain ⟨Lf2_124, rfl⟩ : ∃ z, z = u9 := ⟨_, rfl⟩
                  obtain ⟨rfl, d_Lf2_124⟩ := hp
                  try dsimp only at d_Lf2_124
                  subst d_Lf2_124
                  have hP : va_P D vwCl [(h0, .inr (4, [.ref b0, .ref m0, .ref p0, .ref s0, .ref q0, .int (nI q), .int (nI sg), .int rp, .int lo, .int ea])), (p0, .inr (2, [.ref p1, .ref p2, .ref p3, .ref p4, .int (nI cnt)])), (p1, .inl (cI, 25, .inl (nA f))), (p2, .inl (cI, 24, .inl (nA lf))), (p3, .inl (cI, 24, .inl C)), (p4, .inl (cI, 24, .inl (nA ps))), (m0, .inr (1, [.ref m1, .int (nI n)])), (m1, .inl (cI, 24, .inl (nA t))), (b0, .inr (0, [.ref b1, .ref b2, .int (nI (k + 1))])), (b1, .inl (cI, 32, .inl (upd (upd (upd (upd T (k * 4) x1) (k * 4 + 1) x2) (k * 4 + 2) x3) (k * 4 + 3) x4))), (b2, .inl (cI, 8, .inl (nA (updN Lf k (clen x3 x4)))))] H := hP
                  refine W.eq (g2 := F0 mi 127 ls []) rfl ?_
                  refine lv_aload_n hx hb dX4_addCode_127 rfl (lv_at hl 0 rfl) ?_
                  refine z_muV (As := []) (rest := []) ⟨hx, hb, hml, hown, hts⟩ (c_X4_shorten l D cI h0 b0 m0 p0 s0 q0 q sg rp lo ea p1 p2 p3 p4 f lf C ps cnt m1 t n b1 b2 (upd (upd (upd (upd T (k * 4) x1) (k * 4 + 1) x2) (k * 4 + 2) x3) (k * 4 + 3) x4) (updN Lf k (clen x3 x4)) (k + 1) (by first | assumption | omega) (by omega) (ac_L hL)) (cwV 0 hts gX4_addCode_X4_shorten rfl rfl rfl hd_X4_shorten ⟨Nat.le_of_ble_eq_true rfl, Nat.le_of_ble_eq_true rfl⟩) ⟨hK, hE⟩ hP hD rfl hS [0, 1, 2, 3, 4, 5, 6, 7, 8, 9, 10] (by decide) rfl (fun _ => rfl) (va_recv hK hP (ci := 4) (q0 := 0) rfl rfl) rfl hl.1 rfl (Nat.le_of_ble_eq_true rfl) dX4_addCode_128 (Nat.zero_le _) (Nat.zero_le _) (fun v9 u9 H locs hp hP hS => ?_)
                  obtain ⟨f2_128, lf2_128, C2_128, ps2_128, cnt2_128⟩ := u9
                  obtain ⟨rfl, hpart_128⟩ := hp
                  try dsimp only at hpart_128
                  have hP : va_P D vwCl [(h0, .inr (4, [.ref b0, .ref m0, .ref p0, .ref s0, .ref q0, .int (nI q), .int (nI sg), .int rp, .int lo, .int ea])), (p0, .inr (2, [.ref p1, .ref p2, .ref p3, .ref p4, .int (nI cnt2_128)])), (p1, .inl (cI, 25, .inl (nA f2_128))), (p2, .inl (cI, 24, .inl (nA lf2_128))), (p3, .inl (cI, 24, .inl C2_128)), (p4, .inl (cI, 24, .inl (nA ps2_128))), (m0, .inr (1, [.ref m1, .int (nI n)])), (m1, .inl (cI, 24, .inl (nA t))), (b0, .inr (0, [.ref b1, .ref b2, .int (nI (k + 1))])), (b1, .inl (cI, 32, .inl (upd (upd (upd (upd T (k * 4) x1) (k * 4 + 1) x2) (k * 4 + 2) x3) (k * 4 + 3) x4))), (b2, .inl (cI, 8, .inl (nA (updN Lf k (clen x3 x4)))))] H := hP
                  refine W.eq (g2 := F0 mi 131 ls []) rfl ?_
                  refine lv_aload_n hx hb dX4_addCode_131 rfl (lv_at hl 0 rfl) ?_
                  refine va_get (v := .ref b0) hx hb hts hi_4 hown hK hP 0 rfl rfl 0 (by decide) f_10 (fun _ h => h) rfl dX4_addCode_132 ?_
                  refine z_roV (As := []) (rest := []) ⟨hx, hb, hml, hown, hts⟩ (c_X0_size l D cI b0 b1 b2 (k + 1)) (cwV 0 hts gX4_addCode_X0_size rfl rfl rfl hd_X0_size ⟨Nat.le_of_ble_eq_true rfl, Nat.le_of_ble_eq_true rfl⟩) ⟨hK, hE⟩ (hP.sub (ws' := [(b0, .inr (0, [.ref b1, .ref b2, .int (nI (k + 1))]))]) [8] rfl) (va_recv hK hP (ci := 0) (q0 := 8) rfl rfl) rfl hl.1 rfl (Nat.le_of_ble_eq_true rfl) dX4_addCode_135 (Nat.zero_le _) (Nat.zero_le _) ?_
                  refine lv_iconst (v := nI 1) hx hb dX4_addCode_138 ci_1 ?_
                  refine z_isub hx hb dX4_addCode_139 (by omega) ?_
                  exact mu_iret hA hQ hx hb hr hlocks (f2_128, lf2_128, C2_128, ps2_128, cnt2_128) hP hS ⟨rfl, hpart_128⟩ dX4_addCode_140
                · exact absurd (Or.inr c_102) hnd
              · exact absurd (Or.inl c_77) hnd
            · exact absurd (Or.inr (Or.inr ⟨c_51, c_57⟩)) hnb
        · exact absurd (Or.inr (Or.inl (by first | exact Or.inl c_28 | exact Or.inr c_36))) hnb
    · exact absurd (Or.inl (by first | exact Or.inl c_4 | exact Or.inr c_11)) hnb
set_option maxHeartbeats 4000000 in
set_option maxRecDepth 100000 in
theorem c_X4_send (l : Launch) (D : va_G) (cI : ClassId) (h0 : Nat) (b0 : Nat) (m0 : Nat) (p0 : Nat) (s0 : Nat) (q0 : Nat) (q : Nat) (sg : Nat) (rp : Int32) (lo : Int32) (ea : Int32) (p1 : Nat) (p2 : Nat) (p3 : Nat) (p4 : Nat) (f : Nat → Nat) (lf : Nat → Nat) (C : Nat → Int32) (ps : Nat → Nat) (cnt : Nat) (m1 : Nat) (t : Nat → Nat) (n : Nat) (b1 : Nat) (b2 : Nat) (T : Nat → Int32) (Lf : Nat → Nat) (k : Nat) (se : Nat) (gf : Nat) (ak : Nat) (gn : Nat) (hn : n ≤ 24) (hk : k ≤ 8) (hL : ∀ c, c < k → 2 ≤ Lf c ∧ Lf c ≤ 4) (ht : ∀ j, j < n → t j < 10) (hcnt : cnt ≤ 24) (hst : ∀ g, g < cnt → ps g < n) (hq : q ≤ 9) (hsg : sg ≤ 60000) (hn0 : 0 < n) : MU l yX4_send wsX4_send rm_X4_send D cI [(h0, .inr (4, [.ref b0, .ref m0, .ref p0, .ref s0, .ref q0, .int (nI q), .int (nI sg), .int rp, .int lo, .int ea])), (p0, .inr (2, [.ref p1, .ref p2, .ref p3, .ref p4, .int (nI cnt)])), (p1, .inl (cI, 25, .inl (nA f))), (p2, .inl (cI, 24, .inl (nA lf))), (p3, .inl (cI, 24, .inl C)), (p4, .inl (cI, 24, .inl (nA ps))), (m0, .inr (1, [.ref m1, .int (nI n)])), (m1, .inl (cI, 24, .inl (nA t))), (b0, .inr (0, [.ref b1, .ref b2, .int (nI k)])), (b1, .inl (cI, 32, .inl T)), (b2, .inl (cI, 8, .inl (nA Lf))), (q0, .inr (3, [.int (nI se), .int (nI gf), .int (nI ak), .int (nI gn)]))] [.ref h0] (fun (v9 : Option Value) (u9 : (Nat → Nat) × (Nat → Nat) × (Nat → Int32) × (Nat → Nat) × Nat) => v9 = some (.int (nI (gnN q sg cnt))) ∧ (PartC t 0 T Lf k (-1) 0 0 u9.1 u9.2.1 u9.2.2.1 u9.2.2.2.1 u9.2.2.2.2)) (fun (u9 : (Nat → Nat) × (Nat → Nat) × (Nat → Int32) × (Nat → Nat) × Nat) => [(h0, .inr (4, [.ref b0, .ref m0, .ref p0, .ref s0, .ref q0, .int (nI q), .int (nI (seN q sg cnt)), .int (rp + nI (akN q sg cnt)), .int (lo + nI (gnN q sg cnt)), .int (ea + nI (costN n (sN (ctW C ps t) cnt)))])), (p0, .inr (2, [.ref p1, .ref p2, .ref p3, .ref p4, .int (nI u9.2.2.2.2)])), (p1, .inl (cI, 25, .inl (nA u9.1))), (p2, .inl (cI, 24, .inl (nA u9.2.1))), (p3, .inl (cI, 24, .inl u9.2.2.1)), (p4, .inl (cI, 24, .inl (nA u9.2.2.2.1))), (m0, .inr (1, [.ref m1, .int (nI 0)])), (m1, .inl (cI, 24, .inl (nA t))), (b0, .inr (0, [.ref b1, .ref b2, .int (nI k)])), (b1, .inl (cI, 32, .inl T)), (b2, .inl (cI, 8, .inl (nA Lf))), (q0, .inr (3, [.int (nI (seN q sg cnt)), .int (nI (gfN q sg cnt)), .int (nI (akN q sg cnt)), .int (nI (gnN q sg cnt))]))]) := by
  refine mu_of (C := RX4) (cc := cX4_send) (maxL := 1) (ret := (some .int)) rfl (by decide) rfl (Nat.le_of_ble_eq_true rfl) ?_
  intro pg ev sv mi ag bl mt cd ls Q A hA hQ hx hb hr hlocks hml hts hown hK hE hD H locs hP hS hl
  have hD : zDD A [h0, p0, p1, p2, p3, p4, m0, m1, b0, b1, b2, q0] := hD
  have hl : lv_has ls 1 [(0, .ref h0)] := hl
  have f_19 := hts (.fieldLink RX4 19 "TelegraphDesk" "message" "LTelegraphDesk$Message;") (by decide +kernel)
  have f_156 := hts (.fieldLink RX4 156 "TelegraphDesk" "earned" "I") (by decide +kernel)
  have f_36 := hts (.fieldLink RX4 36 "TelegraphDesk" "passage" "LTelegraphDesk$Passage;") (by decide +kernel)
  have f_26 := hts (.fieldLink RX4 26 "TelegraphDesk" "parting" "LTelegraphDesk$Parting;") (by decide +kernel)
  have f_159 := hts (.fieldLink RX4 159 "TelegraphDesk" "sentGroups" "I") (by decide +kernel)
  have f_40 := hts (.fieldLink RX4 40 "TelegraphDesk" "quality" "I") (by decide +kernel)
  have f_169 := hts (.fieldLink RX4 169 "TelegraphDesk" "repeats" "I") (by decide +kernel)
  have f_175 := hts (.fieldLink RX4 175 "TelegraphDesk" "lost" "I") (by decide +kernel)
  have hi_4 : ∀ w ∈ wsX40, w ∈ wsX4_send := by decide +kernel
  refine lv_aload_n hx hb dX4_send_0 rfl (lv_at hl 0 rfl) ?_
  refine va_get (v := .ref m0) hx hb hts hi_4 hown hK hP 0 rfl rfl 1 (by decide) f_19 (fun _ h => h) rfl dX4_send_1 ?_
  refine z_roV (As := []) (rest := []) ⟨hx, hb, hml, hown, hts⟩ (c_X1_size l D cI m0 m1 n) (cwV 0 hts gX4_send_X1_size rfl rfl rfl hd_X1_size ⟨Nat.le_of_ble_eq_true rfl, Nat.le_of_ble_eq_true rfl⟩) ⟨hK, hE⟩ (hP.sub (ws' := [(m0, .inr (1, [.ref m1, .int (nI n)]))]) [6] rfl) (va_recv hK hP (ci := 1) (q0 := 6) rfl rfl) rfl hl.1 rfl (Nat.le_of_ble_eq_true rfl) dX4_send_4 (Nat.zero_le _) (Nat.zero_le _) ?_
  refine z_if_ne (tgt := 20) hx hb dX4_send_7 (by decide) (by omega) (fun c_7 => ?_) (fun c_7 => ?_)
  · refine lv_aload_n hx hb dX4_send_20 rfl (lv_at hl 0 rfl) ?_
    refine lv_dup hx hb dX4_send_21 rfl ?_
    refine va_get (v := .int ea) hx hb hts hi_4 hown hK hP 0 rfl rfl 9 (by decide) f_156 (fun _ h => h) rfl dX4_send_22 ?_
    refine lv_aload_n hx hb dX4_send_25 rfl (lv_at hl 0 rfl) ?_
    refine z_roV (As := []) (rest := [.int ea, .ref h0]) ⟨hx, hb, hml, hown, hts⟩ (c_X4_cost l D cI h0 b0 m0 p0 s0 q0 q sg rp lo ea p1 p2 p3 p4 f lf C ps cnt m1 t n (by first | assumption | omega) (by first | assumption | omega) (by first | assumption | omega) (by first | assumption | omega)) (cwV 0 hts gX4_send_X4_cost rfl rfl rfl hd_X4_cost ⟨Nat.le_of_ble_eq_true rfl, Nat.le_of_ble_eq_true rfl⟩) ⟨hK, hE⟩ (hP.sub (ws' := [(h0, .inr (4, [.ref b0, .ref m0, .ref p0, .ref s0, .ref q0, .int (nI q), .int (nI sg), .int rp, .int lo, .int ea])), (p0, .inr (2, [.ref p1, .ref p2, .ref p3, .ref p4, .int (nI cnt)])), (p1, .inl (cI, 25, .inl (nA f))), (p2, .inl (cI, 24, .inl (nA lf))), (p3, .inl (cI, 24, .inl C)), (p4, .inl (cI, 24, .inl (nA ps))), (m0, .inr (1, [.ref m1, .int (nI n)])), (m1, .inl (cI, 24, .inl (nA t)))]) [0, 1, 2, 3, 4, 5, 6, 7] rfl) (va_recv hK hP (ci := 4) (q0 := 0) rfl rfl) rfl hl.1 rfl (Nat.le_of_ble_eq_true rfl) dX4_send_26 (Nat.zero_le _) (Nat.zero_le _) ?_
    refine lv_iadd hx hb dX4_send_29 ?_
    refine z_put hx hb hts hi_4 tyX4 tyX4_ok nmX4 hown hK hP hD rfl hS 0 rfl rfl 9 (by decide) f_156 (fun _ h => h) rfl (by decide +kernel) (Nat.le_of_ble_eq_true rfl) dX4_send_30 (fun H locs hP hS => ?_)
    have hP : va_P D vwCl [(h0, .inr (4, [.ref b0, .ref m0, .ref p0, .ref s0, .ref q0, .int (nI q), .int (nI sg), .int rp, .int lo, .int (ea + (nI (costN n (sN (ctW C ps t) cnt))))])), (p0, .inr (2, [.ref p1, .ref p2, .ref p3, .ref p4, .int (nI cnt)])), (p1, .inl (cI, 25, .inl (nA f))), (p2, .inl (cI, 24, .inl (nA lf))), (p3, .inl (cI, 24, .inl C)), (p4, .inl (cI, 24, .inl (nA ps))), (m0, .inr (1, [.ref m1, .int (nI n)])), (m1, .inl (cI, 24, .inl (nA t))), (b0, .inr (0, [.ref b1, .ref b2, .int (nI k)])), (b1, .inl (cI, 32, .inl T)), (b2, .inl (cI, 8, .inl (nA Lf))), (q0, .inr (3, [.int (nI se), .int (nI gf), .int (nI ak), .int (nI gn)]))] H := hP
    refine lv_aload_n hx hb dX4_send_33 rfl (lv_at hl 0 rfl) ?_
    refine va_get (v := .ref q0) hx hb hts hi_4 hown hK hP 0 rfl rfl 4 (by decide) f_36 (fun _ h => h) rfl dX4_send_34 ?_
    refine lv_aload_n hx hb dX4_send_37 rfl (lv_at hl 0 rfl) ?_
    refine va_get (v := .ref p0) hx hb hts hi_4 hown hK hP 0 rfl rfl 2 (by decide) f_26 (fun _ h => h) rfl dX4_send_38 ?_
    refine z_roV (As := []) (rest := [.ref q0]) ⟨hx, hb, hml, hown, hts⟩ (c_X2_size l D cI p0 p1 p2 p3 p4 cnt) (cwV 0 hts gX4_send_X2_size rfl rfl rfl hd_X2_size ⟨Nat.le_of_ble_eq_true rfl, Nat.le_of_ble_eq_true rfl⟩) ⟨hK, hE⟩ (hP.sub (ws' := [(p0, .inr (2, [.ref p1, .ref p2, .ref p3, .ref p4, .int (nI cnt)]))]) [1] rfl) (va_recv hK hP (ci := 2) (q0 := 1) rfl rfl) rfl hl.1 rfl (Nat.le_of_ble_eq_true rfl) dX4_send_41 (Nat.zero_le _) (Nat.zero_le _) ?_
    refine lv_aload_n hx hb dX4_send_44 rfl (lv_at hl 0 rfl) ?_
    refine va_get (v := .int (nI sg)) hx hb hts hi_4 hown hK hP 0 rfl rfl 6 (by decide) f_159 (fun _ h => h) rfl dX4_send_45 ?_
    refine lv_aload_n hx hb dX4_send_48 rfl (lv_at hl 0 rfl) ?_
    refine va_get (v := .int (nI q)) hx hb hts hi_4 hown hK hP 0 rfl rfl 5 (by decide) f_40 (fun _ h => h) rfl dX4_send_49 ?_
    refine z_muV (As := [.int (nI cnt), .int (nI sg), .int (nI q)]) (rest := []) ⟨hx, hb, hml, hown, hts⟩ (c_X3_run l D cI q0 se gf ak gn cnt sg q (by first | assumption | omega) (by first | assumption | omega) (by first | assumption | omega)) (cwV 3 hts gX4_send_X3_run rfl rfl rfl hd_X3_run ⟨Nat.le_of_ble_eq_true rfl, Nat.le_of_ble_eq_true rfl⟩) ⟨hK, hE⟩ hP hD rfl hS [11] (by decide) rfl (fun _ => rfl) (va_recv hK hP (ci := 3) (q0 := 11) rfl rfl) rfl hl.1 rfl (Nat.le_of_ble_eq_true rfl) dX4_send_52 (Nat.zero_le _) (Nat.zero_le _) (fun v9 u9 H locs hp hP hS => ?_)
    obtain rfl := hp
    have hP : va_P D vwCl [(h0, .inr (4, [.ref b0, .ref m0, .ref p0, .ref s0, .ref q0, .int (nI q), .int (nI sg), .int rp, .int lo, .int (ea + (nI (costN n (sN (ctW C ps t) cnt))))])), (p0, .inr (2, [.ref p1, .ref p2, .ref p3, .ref p4, .int (nI cnt)])), (p1, .inl (cI, 25, .inl (nA f))), (p2, .inl (cI, 24, .inl (nA lf))), (p3, .inl (cI, 24, .inl C)), (p4, .inl (cI, 24, .inl (nA ps))), (m0, .inr (1, [.ref m1, .int (nI n)])), (m1, .inl (cI, 24, .inl (nA t))), (b0, .inr (0, [.ref b1, .ref b2, .int (nI k)])), (b1, .inl (cI, 32, .inl T)), (b2, .inl (cI, 8, .inl (nA Lf))), (q0, .inr (3, [.int (nI (seN q sg cnt)), .int (nI (gfN q sg cnt)), .int (nI (akN q sg cnt)), .int (nI (gnN q sg cnt))]))] H := hP
    refine W.eq (g2 := F0 mi 55 ls []) rfl ?_
    refine lv_aload_n hx hb dX4_send_55 rfl (lv_at hl 0 rfl) ?_
    refine lv_aload_n hx hb dX4_send_56 rfl (lv_at hl 0 rfl) ?_
    refine va_get (v := .ref q0) hx hb hts hi_4 hown hK hP 0 rfl rfl 4 (by decide) f_36 (fun _ h => h) rfl dX4_send_57 ?_
    refine z_roV (As := []) (rest := [.ref h0]) ⟨hx, hb, hml, hown, hts⟩ (c_X3_sentAtEnd l D cI q0 (seN q sg cnt) (gfN q sg cnt) (akN q sg cnt) (gnN q sg cnt)) (cwV 0 hts gX4_send_X3_sentAtEnd rfl rfl rfl hd_X3_sentAtEnd ⟨Nat.le_of_ble_eq_true rfl, Nat.le_of_ble_eq_true rfl⟩) ⟨hK, hE⟩ (hP.sub (ws' := [(q0, .inr (3, [.int (nI (seN q sg cnt)), .int (nI (gfN q sg cnt)), .int (nI (akN q sg cnt)), .int (nI (gnN q sg cnt))]))]) [11] rfl) (va_recv hK hP (ci := 3) (q0 := 11) rfl rfl) rfl hl.1 rfl (Nat.le_of_ble_eq_true rfl) dX4_send_60 (Nat.zero_le _) (Nat.zero_le _) ?_
    refine z_put hx hb hts hi_4 tyX4 tyX4_ok nmX4 hown hK hP hD rfl hS 0 rfl rfl 6 (by decide) f_159 (fun _ h => h) rfl (by decide +kernel) (Nat.le_of_ble_eq_true rfl) dX4_send_63 (fun H locs hP hS => ?_)
    have hP : va_P D vwCl [(h0, .inr (4, [.ref b0, .ref m0, .ref p0, .ref s0, .ref q0, .int (nI q), .int (nI (seN q sg cnt)), .int rp, .int lo, .int (ea + (nI (costN n (sN (ctW C ps t) cnt))))])), (p0, .inr (2, [.ref p1, .ref p2, .ref p3, .ref p4, .int (nI cnt)])), (p1, .inl (cI, 25, .inl (nA f))), (p2, .inl (cI, 24, .inl (nA lf))), (p3, .inl (cI, 24, .inl C)), (p4, .inl (cI, 24, .inl (nA ps))), (m0, .inr (1, [.ref m1, .int (nI n)])), (m1, .inl (cI, 24, .inl (nA t))), (b0, .inr (0, [.ref b1, .ref b2, .int (nI k)])), (b1, .inl (cI, 32, .inl T)), (b2, .inl (cI, 8, .inl (nA Lf))), (q0, .inr (3, [.int (nI (seN q sg cnt)), .int (nI (gfN q sg cnt)), .int (nI (akN q sg cnt)), .int (nI (gnN q sg cnt))]))] H := hP
    refine lv_aload_n hx hb dX4_send_66 rfl (lv_at hl 0 rfl) ?_
    refine lv_dup hx hb dX4_send_67 rfl ?_
    refine va_get (v := .int rp) hx hb hts hi_4 hown hK hP 0 rfl rfl 7 (by decide) f_169 (fun _ h => h) rfl dX4_send_68 ?_
    refine lv_aload_n hx hb dX4_send_71 rfl (lv_at hl 0 rfl) ?_
    refine va_get (v := .ref q0) hx hb hts hi_4 hown hK hP 0 rfl rfl 4 (by decide) f_36 (fun _ h => h) rfl dX4_send_72 ?_
    refine z_roV (As := []) (rest := [.int rp, .ref h0]) ⟨hx, hb, hml, hown, hts⟩ (c_X3_repeatsAsked l D cI q0 (seN q sg cnt) (gfN q sg cnt) (akN q sg cnt) (gnN q sg cnt)) (cwV 0 hts gX4_send_X3_repeatsAsked rfl rfl rfl hd_X3_repeatsAsked ⟨Nat.le_of_ble_eq_true rfl, Nat.le_of_ble_eq_true rfl⟩) ⟨hK, hE⟩ (hP.sub (ws' := [(q0, .inr (3, [.int (nI (seN q sg cnt)), .int (nI (gfN q sg cnt)), .int (nI (akN q sg cnt)), .int (nI (gnN q sg cnt))]))]) [11] rfl) (va_recv hK hP (ci := 3) (q0 := 11) rfl rfl) rfl hl.1 rfl (Nat.le_of_ble_eq_true rfl) dX4_send_75 (Nat.zero_le _) (Nat.zero_le _) ?_
    refine lv_iadd hx hb dX4_send_78 ?_
    refine z_put hx hb hts hi_4 tyX4 tyX4_ok nmX4 hown hK hP hD rfl hS 0 rfl rfl 7 (by decide) f_169 (fun _ h => h) rfl (by decide +kernel) (Nat.le_of_ble_eq_true rfl) dX4_send_79 (fun H locs hP hS => ?_)
    have hP : va_P D vwCl [(h0, .inr (4, [.ref b0, .ref m0, .ref p0, .ref s0, .ref q0, .int (nI q), .int (nI (seN q sg cnt)), .int (rp + (nI (akN q sg cnt))), .int lo, .int (ea + (nI (costN n (sN (ctW C ps t) cnt))))])), (p0, .inr (2, [.ref p1, .ref p2, .ref p3, .ref p4, .int (nI cnt)])), (p1, .inl (cI, 25, .inl (nA f))), (p2, .inl (cI, 24, .inl (nA lf))), (p3, .inl (cI, 24, .inl C)), (p4, .inl (cI, 24, .inl (nA ps))), (m0, .inr (1, [.ref m1, .int (nI n)])), (m1, .inl (cI, 24, .inl (nA t))), (b0, .inr (0, [.ref b1, .ref b2, .int (nI k)])), (b1, .inl (cI, 32, .inl T)), (b2, .inl (cI, 8, .inl (nA Lf))), (q0, .inr (3, [.int (nI (seN q sg cnt)), .int (nI (gfN q sg cnt)), .int (nI (akN q sg cnt)), .int (nI (gnN q sg cnt))]))] H := hP
    refine lv_aload_n hx hb dX4_send_82 rfl (lv_at hl 0 rfl) ?_
    refine lv_dup hx hb dX4_send_83 rfl ?_
    refine va_get (v := .int lo) hx hb hts hi_4 hown hK hP 0 rfl rfl 8 (by decide) f_175 (fun _ h => h) rfl dX4_send_84 ?_
    refine lv_aload_n hx hb dX4_send_87 rfl (lv_at hl 0 rfl) ?_
    refine va_get (v := .ref q0) hx hb hts hi_4 hown hK hP 0 rfl rfl 4 (by decide) f_36 (fun _ h => h) rfl dX4_send_88 ?_
    refine z_roV (As := []) (rest := [.int lo, .ref h0]) ⟨hx, hb, hml, hown, hts⟩ (c_X3_groupsLost l D cI q0 (seN q sg cnt) (gfN q sg cnt) (akN q sg cnt) (gnN q sg cnt)) (cwV 0 hts gX4_send_X3_groupsLost rfl rfl rfl hd_X3_groupsLost ⟨Nat.le_of_ble_eq_true rfl, Nat.le_of_ble_eq_true rfl⟩) ⟨hK, hE⟩ (hP.sub (ws' := [(q0, .inr (3, [.int (nI (seN q sg cnt)), .int (nI (gfN q sg cnt)), .int (nI (akN q sg cnt)), .int (nI (gnN q sg cnt))]))]) [11] rfl) (va_recv hK hP (ci := 3) (q0 := 11) rfl rfl) rfl hl.1 rfl (Nat.le_of_ble_eq_true rfl) dX4_send_91 (Nat.zero_le _) (Nat.zero_le _) ?_
    refine lv_iadd hx hb dX4_send_94 ?_
    refine z_put hx hb hts hi_4 tyX4 tyX4_ok nmX4 hown hK hP hD rfl hS 0 rfl rfl 8 (by decide) f_175 (fun _ h => h) rfl (by decide +kernel) (Nat.le_of_ble_eq_true rfl) dX4_send_95 (fun H locs hP hS => ?_)
    have hP : va_P D vwCl [(h0, .inr (4, [.ref b0, .ref m0, .ref p0, .ref s0, .ref q0, .int (nI q), .int (nI (seN q sg cnt)), .int (rp + (nI (akN q sg cnt))), .int (lo + (nI (gnN q sg cnt))), .int (ea + (nI (costN n (sN (ctW C ps t) cnt))))])), (p0, .inr (2, [.ref p1, .ref p2, .ref p3, .ref p4, .int (nI cnt)])), (p1, .inl (cI, 25, .inl (nA f))), (p2, .inl (cI, 24, .inl (nA lf))), (p3, .inl (cI, 24, .inl C)), (p4, .inl (cI, 24, .inl (nA ps))), (m0, .inr (1, [.ref m1, .int (nI n)])), (m1, .inl (cI, 24, .inl (nA t))), (b0, .inr (0, [.ref b1, .ref b2, .int (nI k)])), (b1, .inl (cI, 32, .inl T)), (b2, .inl (cI, 8, .inl (nA Lf))), (q0, .inr (3, [.int (nI (seN q sg cnt)), .int (nI (gfN q sg cnt)), .int (nI (akN q sg cnt)), .int (nI (gnN q sg cnt))]))] H := hP
    refine lv_aload_n hx hb dX4_send_98 rfl (lv_at hl 0 rfl) ?_
    refine va_get (v := .ref m0) hx hb hts hi_4 hown hK hP 0 rfl rfl 1 (by decide) f_19 (fun _ h => h) rfl dX4_send_99 ?_
    refine z_muV (As := []) (rest := []) ⟨hx, hb, hml, hown, hts⟩ (c_X1_removeAll l D cI m0 m1 t n) (cwV 0 hts gX4_send_X1_removeAll rfl rfl rfl hd_X1_removeAll ⟨Nat.le_of_ble_eq_true rfl, Nat.le_of_ble_eq_true rfl⟩) ⟨hK, hE⟩ hP hD rfl hS [6, 7] (by decide) rfl (fun _ => rfl) (va_recv hK hP (ci := 1) (q0 := 6) rfl rfl) rfl hl.1 rfl (Nat.le_of_ble_eq_true rfl) dX4_send_102 (Nat.zero_le _) (Nat.zero_le _) (fun v9 u9 H locs hp hP hS => ?_)
    obtain rfl := hp
    have hP : va_P D vwCl [(h0, .inr (4, [.ref b0, .ref m0, .ref p0, .ref s0, .ref q0, .int (nI q), .int (nI (seN q sg cnt)), .int (rp + (nI (akN q sg cnt))), .int (lo + (nI (gnN q sg cnt))), .int (ea + (nI (costN n (sN (ctW C ps t) cnt))))])), (p0, .inr (2, [.ref p1, .ref p2, .ref p3, .ref p4, .int (nI cnt)])), (p1, .inl (cI, 25, .inl (nA f))), (p2, .inl (cI, 24, .inl (nA lf))), (p3, .inl (cI, 24, .inl C)), (p4, .inl (cI, 24, .inl (nA ps))), (m0, .inr (1, [.ref m1, .int (nI 0)])), (m1, .inl (cI, 24, .inl (nA t))), (b0, .inr (0, [.ref b1, .ref b2, .int (nI k)])), (b1, .inl (cI, 32, .inl T)), (b2, .inl (cI, 8, .inl (nA Lf))), (q0, .inr (3, [.int (nI (seN q sg cnt)), .int (nI (gfN q sg cnt)), .int (nI (akN q sg cnt)), .int (nI (gnN q sg cnt))]))] H := hP
    refine W.eq (g2 := F0 mi 105 ls []) rfl ?_
    refine lv_aload_n hx hb dX4_send_105 rfl (lv_at hl 0 rfl) ?_
    refine z_muV (As := []) (rest := []) ⟨hx, hb, hml, hown, hts⟩ (c_X4_shorten l D cI h0 b0 m0 p0 s0 q0 q (seN q sg cnt) (rp + (nI (akN q sg cnt))) (lo + (nI (gnN q sg cnt))) (ea + (nI (costN n (sN (ctW C ps t) cnt)))) p1 p2 p3 p4 f lf C ps cnt m1 t 0 b1 b2 T Lf k (by first | assumption | omega) (by first | assumption | omega) (by first | assumption | omega)) (cwV 0 hts gX4_send_X4_shorten rfl rfl rfl hd_X4_shorten ⟨Nat.le_of_ble_eq_true rfl, Nat.le_of_ble_eq_true rfl⟩) ⟨hK, hE⟩ hP hD rfl hS [0, 1, 2, 3, 4, 5, 6, 7, 8, 9, 10] (by decide) rfl (fun _ => rfl) (va_recv hK hP (ci := 4) (q0 := 0) rfl rfl) rfl hl.1 rfl (Nat.le_of_ble_eq_true rfl) dX4_send_106 (Nat.zero_le _) (Nat.zero_le _) (fun v9 u9 H locs hp hP hS => ?_)
    obtain ⟨f2_106, lf2_106, C2_106, ps2_106, cnt2_106⟩ := u9
    obtain ⟨rfl, hpart_106⟩ := hp
    try dsimp only at hpart_106
    have hP : va_P D vwCl [(h0, .inr (4, [.ref b0, .ref m0, .ref p0, .ref s0, .ref q0, .int (nI q), .int (nI (seN q sg cnt)), .int (rp + (nI (akN q sg cnt))), .int (lo + (nI (gnN q sg cnt))), .int (ea + (nI (costN n (sN (ctW C ps t) cnt))))])), (p0, .inr (2, [.ref p1, .ref p2, .ref p3, .ref p4, .int (nI cnt2_106)])), (p1, .inl (cI, 25, .inl (nA f2_106))), (p2, .inl (cI, 24, .inl (nA lf2_106))), (p3, .inl (cI, 24, .inl C2_106)), (p4, .inl (cI, 24, .inl (nA ps2_106))), (m0, .inr (1, [.ref m1, .int (nI 0)])), (m1, .inl (cI, 24, .inl (nA t))), (b0, .inr (0, [.ref b1, .ref b2, .int (nI k)])), (b1, .inl (cI, 32, .inl T)), (b2, .inl (cI, 8, .inl (nA Lf))), (q0, .inr (3, [.int (nI (seN q sg cnt)), .int (nI (gfN q sg cnt)), .int (nI (akN q sg cnt)), .int (nI (gnN q sg cnt))]))] H := hP
    refine W.eq (g2 := F0 mi 109 ls []) rfl ?_
    refine lv_aload_n hx hb dX4_send_109 rfl (lv_at hl 0 rfl) ?_
    refine va_get (v := .ref q0) hx hb hts hi_4 hown hK hP 0 rfl rfl 4 (by decide) f_36 (fun _ h => h) rfl dX4_send_110 ?_
    refine z_roV (As := []) (rest := []) ⟨hx, hb, hml, hown, hts⟩ (c_X3_groupsLost l D cI q0 (seN q sg cnt) (gfN q sg cnt) (akN q sg cnt) (gnN q sg cnt)) (cwV 0 hts gX4_send_X3_groupsLost rfl rfl rfl hd_X3_groupsLost ⟨Nat.le_of_ble_eq_true rfl, Nat.le_of_ble_eq_true rfl⟩) ⟨hK, hE⟩ (hP.sub (ws' := [(q0, .inr (3, [.int (nI (seN q sg cnt)), .int (nI (gfN q sg cnt)), .int (nI (akN q sg cnt)), .int (nI (gnN q sg cnt))]))]) [11] rfl) (va_recv hK hP (ci := 3) (q0 := 11) rfl rfl) rfl hl.1 rfl (Nat.le_of_ble_eq_true rfl) dX4_send_113 (Nat.zero_le _) (Nat.zero_le _) ?_
    exact mu_iret hA hQ hx hb hr hlocks (f2_106, lf2_106, C2_106, ps2_106, cnt2_106) hP hS ⟨rfl, hpart_106⟩ dX4_send_116
  · exact absurd hn0 (by omega)
