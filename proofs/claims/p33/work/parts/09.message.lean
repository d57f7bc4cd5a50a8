theorem hd_X1_size : yX1_size.cls = RX1 ∧ yX1_size.cls ≠ "java/lang/invoke/MethodHandle" ∧ yX1_size.cls ≠ "java/lang/invoke/VarHandle" ∧ (parseMethodDescriptor yX1_size.desc).map (fun d => d.parameters.length) = some 0 := by decide +kernel
theorem hd_X1_isFull : yX1_isFull.cls = RX1 ∧ yX1_isFull.cls ≠ "java/lang/invoke/MethodHandle" ∧ yX1_isFull.cls ≠ "java/lang/invoke/VarHandle" ∧ (parseMethodDescriptor yX1_isFull.desc).map (fun d => d.parameters.length) = some 0 := by decide +kernel
theorem hd_X1_has : yX1_has.cls = RX1 ∧ yX1_has.cls ≠ "java/lang/invoke/MethodHandle" ∧ yX1_has.cls ≠ "java/lang/invoke/VarHandle" ∧ (parseMethodDescriptor yX1_has.desc).map (fun d => d.parameters.length) = some 1 := by decide +kernel
theorem hd_X1_typeAt : yX1_typeAt.cls = RX1 ∧ yX1_typeAt.cls ≠ "java/lang/invoke/MethodHandle" ∧ yX1_typeAt.cls ≠ "java/lang/invoke/VarHandle" ∧ (parseMethodDescriptor yX1_typeAt.desc).map (fun d => d.parameters.length) = some 1 := by decide +kernel
theorem hd_X1_countOf : yX1_countOf.cls = RX1 ∧ yX1_countOf.cls ≠ "java/lang/invoke/MethodHandle" ∧ yX1_countOf.cls ≠ "java/lang/invoke/VarHandle" ∧ (parseMethodDescriptor yX1_countOf.desc).map (fun d => d.parameters.length) = some 1 := by decide +kernel
theorem hd_X1_countOfAll : yX1_countOfAll.cls = RX1 ∧ yX1_countOfAll.cls ≠ "java/lang/invoke/MethodHandle" ∧ yX1_countOfAll.cls ≠ "java/lang/invoke/VarHandle" ∧ (parseMethodDescriptor yX1_countOfAll.desc).map (fun d => d.parameters.length) = some 0 := by decide +kernel
theorem hd_X1_hasSameWords : yX1_hasSameWords.cls = RX1 ∧ yX1_hasSameWords.cls ≠ "java/lang/invoke/MethodHandle" ∧ yX1_hasSameWords.cls ≠ "java/lang/invoke/VarHandle" ∧ (parseMethodDescriptor yX1_hasSameWords.desc).map (fun d => d.parameters.length) = some 3 := by decide +kernel
theorem hd_X1_hasWordsOf : yX1_hasWordsOf.cls = RX1 ∧ yX1_hasWordsOf.cls ≠ "java/lang/invoke/MethodHandle" ∧ yX1_hasWordsOf.cls ≠ "java/lang/invoke/VarHandle" ∧ (parseMethodDescriptor yX1_hasWordsOf.desc).map (fun d => d.parameters.length) = some 3 := by decide +kernel
theorem hd_X1_append : yX1_append.cls = RX1 ∧ yX1_append.cls ≠ "java/lang/invoke/MethodHandle" ∧ yX1_append.cls ≠ "java/lang/invoke/VarHandle" ∧ (parseMethodDescriptor yX1_append.desc).map (fun d => d.parameters.length) = some 1 := by decide +kernel
theorem hd_X1_removeLast : yX1_removeLast.cls = RX1 ∧ yX1_removeLast.cls ≠ "java/lang/invoke/MethodHandle" ∧ yX1_removeLast.cls ≠ "java/lang/invoke/VarHandle" ∧ (parseMethodDescriptor yX1_removeLast.desc).map (fun d => d.parameters.length) = some 0 := by decide +kernel
theorem hd_X1_removeAll : yX1_removeAll.cls = RX1 ∧ yX1_removeAll.cls ≠ "java/lang/invoke/MethodHandle" ∧ yX1_removeAll.cls ≠ "java/lang/invoke/VarHandle" ∧ (parseMethodDescriptor yX1_removeAll.desc).map (fun d => d.parameters.length) = some 0 := by decide +kernel
abbrev rm_X1_size : Room := { frames := 0, cells := 0, slots := 0, locals := 0 }
abbrev rm_X1_isFull : Room := { frames := 0, cells := 0, slots := 0, locals := 0 }
abbrev rm_X1_has : Room := { frames := 0, cells := 0, slots := 0, locals := 0 }
abbrev rm_X1_typeAt : Room := { frames := 1, cells := 0, slots := 0, locals := 21 }
abbrev rm_X1_countOf : Room := { frames := 2, cells := 0, slots := 0, locals := 42 }
abbrev rm_X1_countOfAll : Room := { frames := 3, cells := 0, slots := 0, locals := 63 }
abbrev rm_X1_hasSameWords : Room := { frames := 2, cells := 0, slots := 0, locals := 42 }
abbrev rm_X1_hasWordsOf : Room := { frames := 2, cells := 0, slots := 0, locals := 43 }
abbrev rm_X1_append : Room := { frames := 1, cells := 0, slots := 0, locals := 20 }
abbrev rm_X1_removeLast : Room := { frames := 1, cells := 0, slots := 0, locals := 24 }
abbrev rm_X1_removeAll : Room := { frames := 0, cells := 0, slots := 0, locals := 0 }
set_option maxHeartbeats 4000000 in
set_option maxRecDepth 100000 in
theorem c_X1_size (l : Launch) (D : va_G) (cI : ClassId) (m0 : Nat) (m1 : Nat) (n : Nat) : RO l yX1_size wsX1_size rm_X1_size D cI [(m0, .inr (1, [.ref m1, .int (nI n)]))] [.ref m0] (.int (nI n)) := by
  refine ro_of (C := RX1) (cc := cX1_size) (maxL := 1) (ret := (some .int)) rfl (by decide) rfl (Nat.le_of_ble_eq_true rfl) ?_
  intro pg ev sv mi ag bl mt cd ls Q hQ hx hb hr hlocks hml hts hown hK hE hP hl
  have hP : va_P D vwCl [(m0, .inr (1, [.ref m1, .int (nI n)]))] sv.heap := hP
  have hl : lv_has ls 1 [(0, .ref m0)] := hl
  have f_15 := hts (.fieldLink RX1 15 "TelegraphDesk$Message" "count" "I") (by decide +kernel)
  have hi_1 : ∀ w ∈ wsX10, w ∈ wsX1_size := by decide +kernel
  refine lv_aload_n hx hb dX1_size_0 rfl (lv_at hl 0 rfl) ?_
  refine va_get (v := .int (nI n)) hx hb hts hi_1 hown hK hP 0 rfl rfl 1 (by decide) f_15 (fun _ h => h) rfl dX1_size_1 ?_
  exact ro_iret hQ hx hb hr hlocks rfl dX1_size_4
set_option maxHeartbeats 4000000 in
set_option maxRecDepth 100000 in
theorem c_X1_isFull (l : Launch) (D : va_G) (cI : ClassId) (m0 : Nat) (m1 : Nat) (n : Nat) (hn : n ≤ 24) : RO l yX1_isFull wsX1_isFull rm_X1_isFull D cI [(m0, .inr (1, [.ref m1, .int (nI n)]))] [.ref m0] (.int (z1 (24 ≤ n))) := by
  refine ro_of (C := RX1) (cc := cX1_isFull) (maxL := 1) (ret := (some .boolean)) rfl (by decide) rfl (Nat.le_of_ble_eq_true rfl) ?_
  intro pg ev sv mi ag bl mt cd ls Q hQ hx hb hr hlocks hml hts hown hK hE hP hl
  have hP : va_P D vwCl [(m0, .inr (1, [.ref m1, .int (nI n)]))] sv.heap := hP
  have hl : lv_has ls 1 [(0, .ref m0)] := hl
  have f_15 := hts (.fieldLink RX1 15 "TelegraphDesk$Message" "count" "I") (by decide +kernel)
  have hi_1 : ∀ w ∈ wsX10, w ∈ wsX1_isFull := by decide +kernel
  refine lv_aload_n hx hb dX1_isFull_0 rfl (lv_at hl 0 rfl) ?_
  refine va_get (v := .int (nI n)) hx hb hts hi_1 hown hK hP 0 rfl rfl 1 (by decide) f_15 (fun _ h => h) rfl dX1_isFull_1 ?_
  refine z_bipush (n := 24) hx hb rfl (by decide) dX1_isFull_4 ?_
  refine z_icmp_lt (tgt := 13) hx hb dX1_isFull_6 (by decide) (by omega) (by omega) (fun c_6 => ?_) (fun c_6 => ?_)
  · refine lv_iconst (v := nI 0) hx hb dX1_isFull_13 ci_0 ?_
    exact ro_zret hQ hx hb hr hlocks (z1_0 (by omega)) dX1_isFull_14
  · refine lv_iconst (v := nI 1) hx hb dX1_isFull_9 ci_1 ?_
    refine lv_goto (tgt := 14) hx hb dX1_isFull_10 (by decide) ?_
    exact ro_zret hQ hx hb hr hlocks (z1_1 (by omega)) dX1_isFull_14
set_option maxHeartbeats 4000000 in
set_option maxRecDepth 100000 in
theorem c_X1_has (l : Launch) (D : va_G) (cI : ClassId) (m0 : Nat) (m1 : Nat) (n : Nat) (w : Nat) (hn : n ≤ 24) (hw : w < 2147483648) : RO l yX1_has wsX1_has rm_X1_has D cI [(m0, .inr (1, [.ref m1, .int (nI n)]))] [.ref m0, .int (nI w)] (.int (z1 (w < n))) := by
  refine ro_of (C := RX1) (cc := cX1_has) (maxL := 2) (ret := (some .boolean)) rfl (by decide) rfl (Nat.le_of_ble_eq_true rfl) ?_
  intro pg ev sv mi ag bl mt cd ls Q hQ hx hb hr hlocks hml hts hown hK hE hP hl
  have hP : va_P D vwCl [(m0, .inr (1, [.ref m1, .int (nI n)]))] sv.heap := hP
  have hl : lv_has ls 2 [(0, .ref m0), (1, .int (nI w))] := hl
  have f_15 := hts (.fieldLink RX1 15 "TelegraphDesk$Message" "count" "I") (by decide +kernel)
  have hi_1 : ∀ w ∈ wsX10, w ∈ wsX1_has := by decide +kernel
  refine lv_iload_n hx hb dX1_has_0 rfl (lv_at hl 1 rfl) ?_
  refine z_if_lt (tgt := 16) hx hb dX1_has_1 (by decide) (by omega) ?_
  refine lv_iload_n hx hb dX1_has_4 rfl (lv_at hl 1 rfl) ?_
  refine lv_aload_n hx hb dX1_has_5 rfl (lv_at hl 0 rfl) ?_
  refine va_get (v := .int (nI n)) hx hb hts hi_1 hown hK hP 0 rfl rfl 1 (by decide) f_15 (fun _ h => h) rfl dX1_has_6 ?_
  refine z_icmp_ge (tgt := 16) hx hb dX1_has_9 (by decide) (by omega) (by omega) (fun c_9 => ?_) (fun c_9 => ?_)
  · refine lv_iconst (v := nI 0) hx hb dX1_has_16 ci_0 ?_
    exact ro_zret hQ hx hb hr hlocks (z1_0 (by omega)) dX1_has_17
  · refine lv_iconst (v := nI 1) hx hb dX1_has_12 ci_1 ?_
    refine lv_goto (tgt := 17) hx hb dX1_has_13 (by decide) ?_
    exact ro_zret hQ hx hb hr hlocks (z1_1 (by omega)) dX1_has_17
set_option maxHeartbeats 4000000 in
set_option maxRecDepth 100000 in
theorem c_X1_has_r (l : Launch) (D : va_G) (cI : ClassId) (m0 : Nat) (m1 : Nat) (n : Nat) (x : Int32) (hn : n ≤ 24) : RO l yX1_has wsX1_has rm_X1_has D cI [(m0, .inr (1, [.ref m1, .int (nI n)]))] [.ref m0, .int x] (.int (z1 (∃ j : Nat, j < n ∧ x = nI j))) := by
  refine ro_of (C := RX1) (cc := cX1_has) (maxL := 2) (ret := (some .boolean)) rfl (by decide) rfl (Nat.le_of_ble_eq_true rfl) ?_
  intro pg ev sv mi ag bl mt cd ls Q hQ hx hb hr hlocks hml hts hown hK hE hP hl
  have hP : va_P D vwCl [(m0, .inr (1, [.ref m1, .int (nI n)]))] sv.heap := hP
  have hl : lv_has ls 2 [(0, .ref m0), (1, .int x)] := hl
  have f_15 := hts (.fieldLink RX1 15 "TelegraphDesk$Message" "count" "I") (by decide +kernel)
  have hi_1 : ∀ w ∈ wsX10, w ∈ wsX1_has := by decide +kernel
  refine lv_iload_n hx hb dX1_has_0 rfl (lv_at hl 1 rfl) ?_
  refine lv_if_lt (tgt := 16) hx hb dX1_has_1 (by decide) (fun c_1 => ?_) (fun c_1 => ?_)
  · refine lv_iconst (v := nI 0) hx hb dX1_has_16 ci_0 ?_
    exact ro_zret hQ hx hb hr hlocks (z1_0 (by first | exact z_has_g (by omega) c_9 | exact z_has_n (by omega) c_1)) dX1_has_17
  · refine lv_iload_n hx hb dX1_has_4 rfl (lv_at hl 1 rfl) ?_
    refine lv_aload_n hx hb dX1_has_5 rfl (lv_at hl 0 rfl) ?_
    refine va_get (v := .int (nI n)) hx hb hts hi_1 hown hK hP 0 rfl rfl 1 (by decide) f_15 (fun _ h => h) rfl dX1_has_6 ?_
    refine lv_icmp_ge (tgt := 16) hx hb dX1_has_9 (by decide) (fun c_9 => ?_) (fun c_9 => ?_)
    · refine lv_iconst (v := nI 0) hx hb dX1_has_16 ci_0 ?_
      exact ro_zret hQ hx hb hr hlocks (z1_0 (by first | exact z_has_g (by omega) c_9 | exact z_has_n (by omega) c_1)) dX1_has_17
    · refine lv_iconst (v := nI 1) hx hb dX1_has_12 ci_1 ?_
      refine lv_goto (tgt := 17) hx hb dX1_has_13 (by decide) ?_
      exact ro_zret hQ hx hb hr hlocks (z1_1 (z_has_t (by omega) c_1 c_9)) dX1_has_17
set_option maxHeartbeats 4000000 in
set_option maxRecDepth 100000 in
theorem c_X1_typeAt (l : Launch) (D : va_G) (cI : ClassId) (m0 : Nat) (m1 : Nat) (t : Nat → Nat) (n : Nat) (w : Nat) (hn : n ≤ 24) (hw : w < n) : RO l yX1_typeAt wsX1_typeAt rm_X1_typeAt D cI [(m0, .inr (1, [.ref m1, .int (nI n)])), (m1, .inl (cI, 24, .inl (nA t)))] [.ref m0, .int (nI w)] (.int (nI (t w))) := by
  refine ro_of (C := RX1) (cc := cX1_typeAt) (maxL := 2) (ret := (some .int)) rfl (by decide) rfl (Nat.le_of_ble_eq_true rfl) ?_
  intro pg ev sv mi ag bl mt cd ls Q hQ hx hb hr hlocks hml hts hown hK hE hP hl
  have hP : va_P D vwCl [(m0, .inr (1, [.ref m1, .int (nI n)])), (m1, .inl (cI, 24, .inl (nA t)))] sv.heap := hP
  have hl : lv_has ls 2 [(0, .ref m0), (1, .int (nI w))] := hl
  have f_9 := hts (.fieldLink RX1 9 "TelegraphDesk$Message" "types" "[I") (by decide +kernel)
  have hi_1 : ∀ w ∈ wsX10, w ∈ wsX1_typeAt := by decide +kernel
  refine lv_aload_n hx hb dX1_typeAt_0 rfl (lv_at hl 0 rfl) ?_
  refine lv_iload_n hx hb dX1_typeAt_1 rfl (lv_at hl 1 rfl) ?_
  refine z_roV (As := [.int (nI w)]) (rest := []) ⟨hx, hb, hml, hown, hts⟩ (c_X1_has l D cI m0 m1 n w (by first | assumption | omega) (by first | assumption | omega)) (cwV 1 hts gX1_typeAt_X1_has rfl rfl rfl hd_X1_has ⟨Nat.le_of_ble_eq_true rfl, Nat.le_of_ble_eq_true rfl⟩) ⟨hK, hE⟩ (hP.sub (ws' := [(m0, .inr (1, [.ref m1, .int (nI n)]))]) [0] rfl) (va_recv hK hP (ci := 1) (q0 := 0) rfl rfl) rfl hl.1 rfl (Nat.le_of_ble_eq_true rfl) dX1_typeAt_2 (Nat.zero_le _) (Nat.zero_le _) ?_
  refine z_if_eqP (tgt := 17) hx hb dX1_typeAt_5 (by decide) (fun c_5 => ?_) (fun c_5 => ?_)
  · exact absurd hw c_5
  · refine lv_aload_n hx hb dX1_typeAt_8 rfl (lv_at hl 0 rfl) ?_
    refine va_get (v := .ref m1) hx hb hts hi_1 hown hK hP 0 rfl rfl 0 (by decide) f_9 (fun _ h => h) rfl dX1_typeAt_9 ?_
    refine lv_iload_n hx hb dX1_typeAt_12 rfl (lv_at hl 1 rfl) ?_
    refine z_ialdN hx hb hK hP 1 0 rfl rfl (by omega) (by omega) dX1_typeAt_13 ?_
    refine lv_goto (tgt := 18) hx hb dX1_typeAt_14 (by decide) ?_
    exact ro_iret hQ hx hb hr hlocks rfl dX1_typeAt_18
set_option maxHeartbeats 4000000 in
set_option maxRecDepth 100000 in
theorem c_X1_countOf (l : Launch) (D : va_G) (cI : ClassId) (m0 : Nat) (m1 : Nat) (t : Nat → Nat) (n : Nat) (w : Nat) (hn : n ≤ 24) (ht : ∀ j, j < n → t j < 10) (hw : w < n) : RO l yX1_countOf wsX1_countOf rm_X1_countOf D cI [(m0, .inr (1, [.ref m1, .int (nI n)])), (m1, .inl (cI, 24, .inl (nA t)))] [.ref m0, .int (nI w)] (.int (nI (wc (t w)))) := by
  refine ro_of (C := RX1) (cc := cX1_countOf) (maxL := 2) (ret := (some .int)) rfl (by decide) rfl (Nat.le_of_ble_eq_true rfl) ?_
  intro pg ev sv mi ag bl mt cd ls Q hQ hx hb hr hlocks hml hts hown hK hE hP hl
  have hP : va_P D vwCl [(m0, .inr (1, [.ref m1, .int (nI n)])), (m1, .inl (cI, 24, .inl (nA t)))] sv.heap := hP
  have hl : lv_has ls 2 [(0, .ref m0), (1, .int (nI w))] := hl
  have h2 := ht w hw
  refine lv_aload_n hx hb dX1_countOf_0 rfl (lv_at hl 0 rfl) ?_
  refine lv_iload_n hx hb dX1_countOf_1 rfl (lv_at hl 1 rfl) ?_
  refine z_roV (As := [.int (nI w)]) (rest := []) ⟨hx, hb, hml, hown, hts⟩ (c_X1_typeAt l D cI m0 m1 t n w (by first | assumption | omega) (by first | assumption | omega)) (cwV 1 hts gX1_countOf_X1_typeAt rfl rfl rfl hd_X1_typeAt ⟨Nat.le_of_ble_eq_true rfl, Nat.le_of_ble_eq_true rfl⟩) ⟨hK, hE⟩ (hP.sub (ws' := [(m0, .inr (1, [.ref m1, .int (nI n)])), (m1, .inl (cI, 24, .inl (nA t)))]) [0, 1] rfl) (va_recv hK hP (ci := 1) (q0 := 0) rfl rfl) rfl hl.1 rfl (Nat.le_of_ble_eq_true rfl) dX1_countOf_2 (Nat.zero_le _) (Nat.zero_le _) ?_
  refine z_bipush (n := 8) hx hb rfl (by decide) dX1_countOf_5 ?_
  refine z_icmp_lt (tgt := 14) hx hb dX1_countOf_7 (by decide) (by omega) (by omega) (fun c_7 => ?_) (fun c_7 => ?_)
  · refine lv_iconst (v := nI 1) hx hb dX1_countOf_14 ci_1 ?_
    exact ro_iret hQ hx hb hr hlocks (by first | (rw [wc, if_pos c_7]; done) | (rw [wc, if_neg (by omega)]; done)) dX1_countOf_15
  · refine lv_iconst (v := nI 2) hx hb dX1_countOf_10 ci_2 ?_
    refine lv_goto (tgt := 15) hx hb dX1_countOf_11 (by decide) ?_
    exact ro_iret hQ hx hb hr hlocks (by first | (rw [wc, if_pos c_7]; done) | (rw [wc, if_neg (by omega)]; done)) dX1_countOf_15
set_option maxHeartbeats 4000000 in
set_option maxRecDepth 100000 in
theorem c_X1_countOfAll (l : Launch) (D : va_G) (cI : ClassId) (m0 : Nat) (m1 : Nat) (t : Nat → Nat) (n : Nat) (hn : n ≤ 24) (ht : ∀ j, j < n → t j < 10) : RO l yX1_countOfAll wsX1_countOfAll rm_X1_countOfAll D cI [(m0, .inr (1, [.ref m1, .int (nI n)])), (m1, .inl (cI, 24, .inl (nA t)))] [.ref m0] (.int (nI (sN (fun j => wc (t j)) n))) := by
  refine ro_of (C := RX1) (cc := cX1_countOfAll) (maxL := 3) (ret := (some .int)) rfl (by decide) rfl (Nat.le_of_ble_eq_true rfl) ?_
  intro pg ev sv mi ag bl mt cd ls Q hQ hx hb hr hlocks hml hts hown hK hE hP hl
  have hP : va_P D vwCl [(m0, .inr (1, [.ref m1, .int (nI n)])), (m1, .inl (cI, 24, .inl (nA t)))] sv.heap := hP
  have hl : lv_has ls 3 [(0, .ref m0)] := hl
  have f_15 := hts (.fieldLink RX1 15 "TelegraphDesk$Message" "count" "I") (by decide +kernel)
  have hi_1 : ∀ w ∈ wsX10, w ∈ wsX1_countOfAll := by decide +kernel
  refine lv_iconst (v := nI 0) hx hb dX1_countOfAll_0 ci_0 ?_
  refine lv_istore_n (lv' := [(1, .int (nI 0)), (0, .ref m0)]) hx hb dX1_countOfAll_1 rfl hl (by decide) rfl (fun ls hl => ?_)
  refine lv_iconst (v := nI 0) hx hb dX1_countOfAll_2 ci_0 ?_
  refine lv_istore_n (lv' := [(2, .int (nI 0)), (1, .int (nI 0)), (0, .ref m0)]) hx hb dX1_countOfAll_3 rfl hl (by decide) rfl (fun ls hl => ?_)
  have lp_4 : ∀ (Nf : Nat) (i : Nat) (hi : i ≤ n) (hN : n - i < Nf) (ls : Array Slot), lv_has ls 3 [(2, .int (nI i)), (1, .int (nI (sN (fun j => wc (t j)) i))), (0, .ref m0)] → W pg l ev rm_X1_countOfAll sv mi ag bl mt cd sv.heap [] 0 0 Q (F0 mi 4 ls []) := by
    intro Nf
    induction Nf with
    | zero =>
      intro i hi hN
      exact absurd hN (Nat.not_lt_zero _)
    | succ Nf ih_4 =>
      intro i hi hN ls hl
      refine lv_iload_n hx hb dX1_countOfAll_4 rfl (lv_at hl 0 rfl) ?_
      refine lv_aload_n hx hb dX1_countOfAll_5 rfl (lv_at hl 2 rfl) ?_
      refine va_get (v := .int (nI n)) hx hb hts hi_1 hown hK hP 0 rfl rfl 1 (by decide) f_15 (fun _ h => h) rfl dX1_countOfAll_6 ?_
      refine z_icmp_ge (tgt := 26) hx hb dX1_countOfAll_9 (by decide) (by omega) (by omega) (fun c_9 => ?_) (fun c_9 => ?_)
      · refine lv_iload_n hx hb dX1_countOfAll_26 rfl (lv_at hl 1 rfl) ?_
        exact ro_iret hQ hx hb hr hlocks (by rw [show i = n by omega]) dX1_countOfAll_27
      · refine lv_iload_n hx hb dX1_countOfAll_12 rfl (lv_at hl 1 rfl) ?_
        refine lv_aload_n hx hb dX1_countOfAll_13 rfl (lv_at hl 2 rfl) ?_
        refine lv_iload_n hx hb dX1_countOfAll_14 rfl (lv_at hl 0 rfl) ?_
        refine z_roV (As := [.int (nI i)]) (rest := [.int (nI (sN (fun j => wc (t j)) i))]) ⟨hx, hb, hml, hown, hts⟩ (c_X1_countOf l D cI m0 m1 t n i (by first | assumption | omega) (by first | assumption | omega) (by first | assumption | omega)) (cwV 1 hts gX1_countOfAll_X1_countOf rfl rfl rfl hd_X1_countOf ⟨Nat.le_of_ble_eq_true rfl, Nat.le_of_ble_eq_true rfl⟩) ⟨hK, hE⟩ (hP.sub (ws' := [(m0, .inr (1, [.ref m1, .int (nI n)])), (m1, .inl (cI, 24, .inl (nA t)))]) [0, 1] rfl) (va_recv hK hP (ci := 1) (q0 := 0) rfl rfl) rfl hl.1 rfl (Nat.le_of_ble_eq_true rfl) dX1_countOfAll_15 (Nat.zero_le _) (Nat.zero_le _) ?_
        refine z_iadd hx hb dX1_countOfAll_18 ?_
        refine lv_istore_n (lv' := [(1, .int (nI ((sN (fun j => wc (t j)) i) + (wc (t i))))), (2, .int (nI i)), (0, .ref m0)]) hx hb dX1_countOfAll_19 rfl hl (by decide) rfl (fun ls hl => ?_)
        refine lv_iinc (v := nI (i + 1)) (lv' := [(2, .int (nI (i + 1))), (1, .int (nI ((sN (fun j => wc (t j)) i) + (wc (t i))))), (0, .ref m0)]) hx hb dX1_countOfAll_20 hl (k := 1) rfl (z_inc1 _) (by decide) rfl (fun ls hl => ?_)
        refine lv_goto (tgt := 4) hx hb dX1_countOfAll_23 (by decide) ?_
        exact ih_4 (i + 1) (by omega) (by omega) ls (lv_sub hl [0, 1, 2] rfl)
  exact lp_4 ((n - 0) + 1) 0 (Nat.zero_le _) (Nat.lt_succ_self _) ls hl
set_option maxHeartbeats 4000000 in
set_option maxRecDepth 100000 in
theorem c_X1_hasSameWords (l : Launch) (D : va_G) (cI : ClassId) (m0 : Nat) (m1 : Nat) (t : Nat → Nat) (n : Nat) (a : Nat) (w : Nat) (m2 : Nat) (hn : n ≤ 24) (hm2 : 2 ≤ m2 ∧ m2 ≤ 4) (ha : a + m2 ≤ n) (hw : w < n) : RO l yX1_hasSameWords wsX1_hasSameWords rm_X1_hasSameWords D cI [(m0, .inr (1, [.ref m1, .int (nI n)])), (m1, .inl (cI, 24, .inl (nA t)))] [.ref m0, .int (nI a), .int (nI w), .int (nI m2)] (.int (z1 (w + m2 ≤ n ∧ ∀ p, p < m2 → nI (t (a + p)) = nI (t (w + p))))) := by
  refine ro_of (C := RX1) (cc := cX1_hasSameWords) (maxL := 5) (ret := (some .boolean)) rfl (by decide) rfl (Nat.le_of_ble_eq_true rfl) ?_
  intro pg ev sv mi ag bl mt cd ls Q hQ hx hb hr hlocks hml hts hown hK hE hP hl
  have hP : va_P D vwCl [(m0, .inr (1, [.ref m1, .int (nI n)])), (m1, .inl (cI, 24, .inl (nA t)))] sv.heap := hP
  have hl : lv_has ls 5 [(0, .ref m0), (1, .int (nI a)), (2, .int (nI w)), (3, .int (nI m2))] := hl
  refine lv_aload_n hx hb dX1_hasSameWords_0 rfl (lv_at hl 0 rfl) ?_
  refine lv_iload_n hx hb dX1_hasSameWords_1 rfl (lv_at hl 1 rfl) ?_
  refine lv_iload_n hx hb dX1_hasSameWords_2 rfl (lv_at hl 3 rfl) ?_
  refine z_iadd hx hb dX1_hasSameWords_3 ?_
  refine lv_iconst (v := nI 1) hx hb dX1_hasSameWords_4 ci_1 ?_
  refine z_isub hx hb dX1_hasSameWords_5 (by omega) ?_
  refine z_roV (As := [.int (nI ((a + m2) - 1))]) (rest := []) ⟨hx, hb, hml, hown, hts⟩ (c_X1_has l D cI m0 m1 n ((a + m2) - 1) (by first | assumption | omega) (by first | assumption | omega)) (cwV 1 hts gX1_hasSameWords_X1_has rfl rfl rfl hd_X1_has ⟨Nat.le_of_ble_eq_true rfl, Nat.le_of_ble_eq_true rfl⟩) ⟨hK, hE⟩ (hP.sub (ws' := [(m0, .inr (1, [.ref m1, .int (nI n)]))]) [0] rfl) (va_recv hK hP (ci := 1) (q0 := 0) rfl rfl) rfl hl.1 rfl (Nat.le_of_ble_eq_true rfl) dX1_hasSameWords_6 (Nat.zero_le _) (Nat.zero_le _) ?_
  refine z_if_eqP (tgt := 24) hx hb dX1_hasSameWords_9 (by decide) (fun c_9 => ?_) (fun c_9 => ?_)
  · exact absurd (by omega) c_9
  · refine lv_aload_n hx hb dX1_hasSameWords_12 rfl (lv_at hl 0 rfl) ?_
    refine lv_iload_n hx hb dX1_hasSameWords_13 rfl (lv_at hl 2 rfl) ?_
    refine lv_iload_n hx hb dX1_hasSameWords_14 rfl (lv_at hl 3 rfl) ?_
    refine z_iadd hx hb dX1_hasSameWords_15 ?_
    refine lv_iconst (v := nI 1) hx hb dX1_hasSameWords_16 ci_1 ?_
    refine z_isub hx hb dX1_hasSameWords_17 (by omega) ?_
    refine z_roV (As := [.int (nI ((w + m2) - 1))]) (rest := []) ⟨hx, hb, hml, hown, hts⟩ (c_X1_has l D cI m0 m1 n ((w + m2) - 1) (by first | assumption | omega) (by first | assumption | omega)) (cwV 1 hts gX1_hasSameWords_X1_has rfl rfl rfl hd_X1_has ⟨Nat.le_of_ble_eq_true rfl, Nat.le_of_ble_eq_true rfl⟩) ⟨hK, hE⟩ (hP.sub (ws' := [(m0, .inr (1, [.ref m1, .int (nI n)]))]) [0] rfl) (va_recv hK hP (ci := 1) (q0 := 0) rfl rfl) rfl hl.1 rfl (Nat.le_of_ble_eq_true rfl) dX1_hasSameWords_18 (Nat.zero_le _) (Nat.zero_le _) ?_
    refine z_if_neP (tgt := 26) hx hb dX1_hasSameWords_21 (by decide) (fun c_21 => ?_) (fun c_21 => ?_)
    · refine lv_iconst (v := nI 0) hx hb dX1_hasSameWords_26 ci_0 ?_
      refine lv_istore (lv' := [(4, .int (nI 0)), (0, .ref m0), (1, .int (nI a)), (2, .int (nI w)), (3, .int (nI m2))]) hx hb dX1_hasSameWords_27 hl (by decide) rfl (fun ls hl => ?_)
      have lp_29 : ∀ (Nf : Nat) (i : Nat) (hi : i ≤ m2) (hall : ∀ p, p < i → nI (t (a + p)) = nI (t (w + p))) (hN : m2 - i < Nf) (ls : Array Slot), lv_has ls 5 [(4, .int (nI i)), (0, .ref m0), (1, .int (nI a)), (2, .int (nI w)), (3, .int (nI m2))] → W pg l ev rm_X1_hasSameWords sv mi ag bl mt cd sv.heap [] 0 0 Q (F0 mi 29 ls []) := by
        intro Nf
        induction Nf with
        | zero =>
          intro i hi hall hN
          exact absurd hN (Nat.not_lt_zero _)
        | succ Nf ih_29 =>
          intro i hi hall hN ls hl
          refine lv_iload hx hb dX1_hasSameWords_29 (lv_at hl 0 rfl) ?_
          refine lv_iload_n hx hb dX1_hasSameWords_31 rfl (lv_at hl 4 rfl) ?_
          refine z_icmp_ge (tgt := 62) hx hb dX1_hasSameWords_32 (by decide) (by omega) (by omega) (fun c_32 => ?_) (fun c_32 => ?_)
          · refine lv_iconst (v := nI 1) hx hb dX1_hasSameWords_62 ci_1 ?_
            exact ro_zret hQ hx hb hr hlocks (z1_1 ⟨by omega, fun p hp => hall p (by omega)⟩) dX1_hasSameWords_63
          · refine lv_aload_n hx hb dX1_hasSameWords_35 rfl (lv_at hl 1 rfl) ?_
            refine lv_iload_n hx hb dX1_hasSameWords_36 rfl (lv_at hl 2 rfl) ?_
            refine lv_iload hx hb dX1_hasSameWords_37 (lv_at hl 0 rfl) ?_
            refine z_iadd hx hb dX1_hasSameWords_39 ?_
            refine z_roV (As := [.int (nI (a + i))]) (rest := []) ⟨hx, hb, hml, hown, hts⟩ (c_X1_typeAt l D cI m0 m1 t n (a + i) (by first | assumption | omega) (by first | assumption | omega)) (cwV 1 hts gX1_hasSameWords_X1_typeAt rfl rfl rfl hd_X1_typeAt ⟨Nat.le_of_ble_eq_true rfl, Nat.le_of_ble_eq_true rfl⟩) ⟨hK, hE⟩ (hP.sub (ws' := [(m0, .inr (1, [.ref m1, .int (nI n)])), (m1, .inl (cI, 24, .inl (nA t)))]) [0, 1] rfl) (va_recv hK hP (ci := 1) (q0 := 0) rfl rfl) rfl hl.1 rfl (Nat.le_of_ble_eq_true rfl) dX1_hasSameWords_40 (Nat.zero_le _) (Nat.zero_le _) ?_
            refine lv_aload_n hx hb dX1_hasSameWords_43 rfl (lv_at hl 1 rfl) ?_
            refine lv_iload_n hx hb dX1_hasSameWords_44 rfl (lv_at hl 3 rfl) ?_
            refine lv_iload hx hb dX1_hasSameWords_45 (lv_at hl 0 rfl) ?_
            refine z_iadd hx hb dX1_hasSameWords_47 ?_
            refine z_roV (As := [.int (nI (w + i))]) (rest := [.int (nI (t (a + i)))]) ⟨hx, hb, hml, hown, hts⟩ (c_X1_typeAt l D cI m0 m1 t n (w + i) (by first | assumption | omega) (by first | assumption | omega)) (cwV 1 hts gX1_hasSameWords_X1_typeAt rfl rfl rfl hd_X1_typeAt ⟨Nat.le_of_ble_eq_true rfl, Nat.le_of_ble_eq_true rfl⟩) ⟨hK, hE⟩ (hP.sub (ws' := [(m0, .inr (1, [.ref m1, .int (nI n)])), (m1, .inl (cI, 24, .inl (nA t)))]) [0, 1] rfl) (va_recv hK hP (ci := 1) (q0 := 0) rfl rfl) rfl hl.1 rfl (Nat.le_of_ble_eq_true rfl) dX1_hasSameWords_48 (Nat.zero_le _) (Nat.zero_le _) ?_
            refine lv_icmp_eq (tgt := 56) hx hb dX1_hasSameWords_51 (by decide) (fun c_51 => ?_) (fun c_51 => ?_)
            · refine lv_iinc (v := nI (i + 1)) (lv' := [(4, .int (nI (i + 1))), (0, .ref m0), (1, .int (nI a)), (2, .int (nI w)), (3, .int (nI m2))]) hx hb dX1_hasSameWords_56 hl (k := 0) rfl (z_inc1 _) (by decide) rfl (fun ls hl => ?_)
              refine lv_goto (tgt := 29) hx hb dX1_hasSameWords_59 (by decide) ?_
              exact ih_29 (i + 1) (by omega) (lt_s hall c_51) (by omega) ls (lv_sub hl [0, 1, 2, 3, 4] rfl)
            · refine lv_iconst (v := nI 0) hx hb dX1_hasSameWords_54 ci_0 ?_
              exact ro_zret hQ hx hb hr hlocks (z1_0 (fun q => c_51 (q.2 i (by omega)))) dX1_hasSameWords_55
      exact lp_29 ((m2 - 0) + 1) 0 (Nat.zero_le _) (fun _ h => absurd h (Nat.not_lt_zero _)) (Nat.lt_succ_self _) ls hl
    · refine lv_iconst (v := nI 0) hx hb dX1_hasSameWords_24 ci_0 ?_
      exact ro_zret hQ hx hb hr hlocks (z1_0 (fun q => c_21 (by have := q.1; omega))) dX1_hasSameWords_25
set_option maxHeartbeats 4000000 in
set_option maxRecDepth 100000 in
theorem c_X1_hasWordsOf (l : Launch) (D : va_G) (cI : ClassId) (m0 : Nat) (m1 : Nat) (b0 : Nat) (b1 : Nat) (b2 : Nat) (t : Nat → Nat) (n : Nat) (T : Nat → Int32) (Lf : Nat → Nat) (k : Nat) (c : Nat) (w : Nat) (hn : n ≤ 24) (hk : k ≤ 8) (hL : ∀ c, c < k → 2 ≤ Lf c ∧ Lf c ≤ 4) (hc : c < k) (hw : w < n) : RO l yX1_hasWordsOf wsX1_hasWordsOf rm_X1_hasWordsOf D cI [(m0, .inr (1, [.ref m1, .int (nI n)])), (m1, .inl (cI, 24, .inl (nA t))), (b0, .inr (0, [.ref b1, .ref b2, .int (nI k)])), (b1, .inl (cI, 32, .inl T)), (b2, .inl (cI, 8, .inl (nA Lf)))] [.ref m0, .ref b0, .int (nI c), .int (nI w)] (.int (z1 (w + Lf c ≤ n ∧ ∀ p, p < Lf c → nI (t (w + p)) = T (c * 4 + p)))) := by
  refine ro_of (C := RX1) (cc := cX1_hasWordsOf) (maxL := 6) (ret := (some .boolean)) rfl (by decide) rfl (Nat.le_of_ble_eq_true rfl) ?_
  intro pg ev sv mi ag bl mt cd ls Q hQ hx hb hr hlocks hml hts hown hK hE hP hl
  have hP : va_P D vwCl [(m0, .inr (1, [.ref m1, .int (nI n)])), (m1, .inl (cI, 24, .inl (nA t))), (b0, .inr (0, [.ref b1, .ref b2, .int (nI k)])), (b1, .inl (cI, 32, .inl T)), (b2, .inl (cI, 8, .inl (nA Lf)))] sv.heap := hP
  have hl : lv_has ls 6 [(0, .ref m0), (1, .ref b0), (2, .int (nI c)), (3, .int (nI w))] := hl
  have h2 := hL c hc
  refine lv_aload_n hx hb dX1_hasWordsOf_0 rfl (lv_at hl 1 rfl) ?_
  refine lv_iload_n hx hb dX1_hasWordsOf_1 rfl (lv_at hl 2 rfl) ?_
  refine z_roV (As := [.int (nI c)]) (rest := []) ⟨hx, hb, hml, hown, hts⟩ (c_X0_wordsIn l D cI b0 b1 b2 T Lf k c (by first | assumption | omega) (by first | assumption | omega)) (cwV 1 hts gX1_hasWordsOf_X0_wordsIn rfl rfl rfl hd_X0_wordsIn ⟨Nat.le_of_ble_eq_true rfl, Nat.le_of_ble_eq_true rfl⟩) ⟨hK, hE⟩ (hP.sub (ws' := [(b0, .inr (0, [.ref b1, .ref b2, .int (nI k)])), (b1, .inl (cI, 32, .inl T)), (b2, .inl (cI, 8, .inl (nA Lf)))]) [2, 3, 4] rfl) (va_recv hK hP (ci := 0) (q0 := 2) rfl rfl) rfl hl.1 rfl (Nat.le_of_ble_eq_true rfl) dX1_hasWordsOf_2 (Nat.zero_le _) (Nat.zero_le _) ?_
  refine lv_istore (lv' := [(4, .int (nI (Lf c))), (0, .ref m0), (1, .ref b0), (2, .int (nI c)), (3, .int (nI w))]) hx hb dX1_hasWordsOf_5 hl (by decide) rfl (fun ls hl => ?_)
  refine lv_iload hx hb dX1_hasWordsOf_7 (lv_at hl 0 rfl) ?_
  refine z_if_eq (tgt := 25) hx hb dX1_hasWordsOf_9 (by decide) (by omega) (fun c_9 => ?_) (fun c_9 => ?_)
  · exact absurd c_9 (by omega)
  · refine lv_aload_n hx hb dX1_hasWordsOf_12 rfl (lv_at hl 1 rfl) ?_
    refine lv_iload_n hx hb dX1_hasWordsOf_13 rfl (lv_at hl 4 rfl) ?_
    refine lv_iload hx hb dX1_hasWordsOf_14 (lv_at hl 0 rfl) ?_
    refine z_iadd hx hb dX1_hasWordsOf_16 ?_
    refine lv_iconst (v := nI 1) hx hb dX1_hasWordsOf_17 ci_1 ?_
    refine z_isub hx hb dX1_hasWordsOf_18 (by omega) ?_
    refine z_roV (As := [.int (nI ((w + (Lf c)) - 1))]) (rest := []) ⟨hx, hb, hml, hown, hts⟩ (c_X1_has l D cI m0 m1 n ((w + (Lf c)) - 1) (by first | assumption | omega) (by first | assumption | omega)) (cwV 1 hts gX1_hasWordsOf_X1_has rfl rfl rfl hd_X1_has ⟨Nat.le_of_ble_eq_true rfl, Nat.le_of_ble_eq_true rfl⟩) ⟨hK, hE⟩ (hP.sub (ws' := [(m0, .inr (1, [.ref m1, .int (nI n)]))]) [0] rfl) (va_recv hK hP (ci := 1) (q0 := 0) rfl rfl) rfl hl.1 rfl (Nat.le_of_ble_eq_true rfl) dX1_hasWordsOf_19 (Nat.zero_le _) (Nat.zero_le _) ?_
    refine z_if_neP (tgt := 27) hx hb dX1_hasWordsOf_22 (by decide) (fun c_22 => ?_) (fun c_22 => ?_)
    · refine lv_iconst (v := nI 0) hx hb dX1_hasWordsOf_27 ci_0 ?_
      refine lv_istore (lv' := [(5, .int (nI 0)), (4, .int (nI (Lf c))), (0, .ref m0), (1, .ref b0), (2, .int (nI c)), (3, .int (nI w))]) hx hb dX1_hasWordsOf_28 hl (by decide) rfl (fun ls hl => ?_)
      have lp_30 : ∀ (Nf : Nat) (i : Nat) (hi : i ≤ Lf c) (hall : ∀ p, p < i → nI (t (w + p)) = T (c * 4 + p)) (hN : Lf c - i < Nf) (ls : Array Slot), lv_has ls 6 [(5, .int (nI i)), (4, .int (nI (Lf c))), (0, .ref m0), (1, .ref b0), (2, .int (nI c)), (3, .int (nI w))] → W pg l ev rm_X1_hasWordsOf sv mi ag bl mt cd sv.heap [] 0 0 Q (F0 mi 30 ls []) := by
        intro Nf
        induction Nf with
        | zero =>
          intro i hi hall hN
          exact absurd hN (Nat.not_lt_zero _)
        | succ Nf ih_30 =>
          intro i hi hall hN ls hl
          refine lv_iload hx hb dX1_hasWordsOf_30 (lv_at hl 0 rfl) ?_
          refine lv_iload hx hb dX1_hasWordsOf_32 (lv_at hl 1 rfl) ?_
          refine z_icmp_ge (tgt := 63) hx hb dX1_hasWordsOf_34 (by decide) (by omega) (by omega) (fun c_34 => ?_) (fun c_34 => ?_)
          · refine lv_iconst (v := nI 1) hx hb dX1_hasWordsOf_63 ci_1 ?_
            exact ro_zret hQ hx hb hr hlocks (z1_1 ⟨by omega, fun p hp => hall p (by omega)⟩) dX1_hasWordsOf_64
          · refine lv_aload_n hx hb dX1_hasWordsOf_37 rfl (lv_at hl 2 rfl) ?_
            refine lv_iload_n hx hb dX1_hasWordsOf_38 rfl (lv_at hl 5 rfl) ?_
            refine lv_iload hx hb dX1_hasWordsOf_39 (lv_at hl 0 rfl) ?_
            refine z_iadd hx hb dX1_hasWordsOf_41 ?_
            refine z_roV (As := [.int (nI (w + i))]) (rest := []) ⟨hx, hb, hml, hown, hts⟩ (c_X1_typeAt l D cI m0 m1 t n (w + i) (by first | assumption | omega) (by first | assumption | omega)) (cwV 1 hts gX1_hasWordsOf_X1_typeAt rfl rfl rfl hd_X1_typeAt ⟨Nat.le_of_ble_eq_true rfl, Nat.le_of_ble_eq_true rfl⟩) ⟨hK, hE⟩ (hP.sub (ws' := [(m0, .inr (1, [.ref m1, .int (nI n)])), (m1, .inl (cI, 24, .inl (nA t)))]) [0, 1] rfl) (va_recv hK hP (ci := 1) (q0 := 0) rfl rfl) rfl hl.1 rfl (Nat.le_of_ble_eq_true rfl) dX1_hasWordsOf_42 (Nat.zero_le _) (Nat.zero_le _) ?_
            refine lv_aload_n hx hb dX1_hasWordsOf_45 rfl (lv_at hl 3 rfl) ?_
            refine lv_iload_n hx hb dX1_hasWordsOf_46 rfl (lv_at hl 4 rfl) ?_
            refine lv_iload hx hb dX1_hasWordsOf_47 (lv_at hl 0 rfl) ?_
            refine z_roV (As := [.int (nI c), .int (nI i)]) (rest := [.int (nI (t (w + i)))]) ⟨hx, hb, hml, hown, hts⟩ (c_X0_typeIn l D cI b0 b1 b2 T Lf k c i (by first | assumption | omega) (by first | assumption | omega) (by first | assumption | omega)) (cwV 2 hts gX1_hasWordsOf_X0_typeIn rfl rfl rfl hd_X0_typeIn ⟨Nat.le_of_ble_eq_true rfl, Nat.le_of_ble_eq_true rfl⟩) ⟨hK, hE⟩ (hP.sub (ws' := [(b0, .inr (0, [.ref b1, .ref b2, .int (nI k)])), (b1, .inl (cI, 32, .inl T)), (b2, .inl (cI, 8, .inl (nA Lf)))]) [2, 3, 4] rfl) (va_recv hK hP (ci := 0) (q0 := 2) rfl rfl) rfl hl.1 rfl (Nat.le_of_ble_eq_true rfl) dX1_hasWordsOf_49 (Nat.zero_le _) (Nat.zero_le _) ?_
            refine lv_icmp_eq (tgt := 57) hx hb dX1_hasWordsOf_52 (by decide) (fun c_52 => ?_) (fun c_52 => ?_)
            · refine lv_iinc (v := nI (i + 1)) (lv' := [(5, .int (nI (i + 1))), (4, .int (nI (Lf c))), (0, .ref m0), (1, .ref b0), (2, .int (nI c)), (3, .int (nI w))]) hx hb dX1_hasWordsOf_57 hl (k := 0) rfl (z_inc1 _) (by decide) rfl (fun ls hl => ?_)
              refine lv_goto (tgt := 30) hx hb dX1_hasWordsOf_60 (by decide) ?_
              exact ih_30 (i + 1) (by omega) (lt_s hall c_52) (by omega) ls (lv_sub hl [0, 1, 2, 3, 4, 5] rfl)
            · refine lv_iconst (v := nI 0) hx hb dX1_hasWordsOf_55 ci_0 ?_
              exact ro_zret hQ hx hb hr hlocks (z1_0 (fun q => c_52 (q.2 i (by omega)))) dX1_hasWordsOf_56
      exact lp_30 ((Lf c - 0) + 1) 0 (Nat.zero_le _) (fun _ h => absurd h (Nat.not_lt_zero _)) (Nat.lt_succ_self _) ls hl
    · refine lv_iconst (v := nI 0) hx hb dX1_hasWordsOf_25 ci_0 ?_
      exact ro_zret hQ hx hb hr hlocks (z1_0 (fun q => c_22 (by have := q.1; omega))) dX1_hasWordsOf_26
set_option maxHeartbeats 4000000 in
set_option maxRecDepth 100000 in
theorem c_X1_append (l : Launch) (D : va_G) (cI : ClassId) (m0 : Nat) (m1 : Nat) (t : Nat → Nat) (n : Nat) (x : Nat) (hn : n < 24) : MU l yX1_append wsX1_append rm_X1_append D cI [(m0, .inr (1, [.ref m1, .int (nI n)])), (m1, .inl (cI, 24, .inl (nA t)))] [.ref m0, .int (nI x)] (fun (v9 : Option Value) (u9 : Unit) => v9 = none) (fun (u9 : Unit) => [(m0, .inr (1, [.ref m1, .int (nI (n + 1))])), (m1, .inl (cI, 24, .inl (nA (updN t n x))))]) := by
  refine mu_of (C := RX1) (cc := cX1_append) (maxL := 2) (ret := none) rfl (by decide) rfl (Nat.le_of_ble_eq_true rfl) ?_
  intro pg ev sv mi ag bl mt cd ls Q A hA hQ hx hb hr hlocks hml hts hown hK hE hD H locs hP hS hl
  have hD : zDD A [m0, m1] := hD
  have hl : lv_has ls 2 [(0, .ref m0), (1, .int (nI x))] := hl
  have f_9 := hts (.fieldLink RX1 9 "TelegraphDesk$Message" "types" "[I") (by decide +kernel)
  have f_15 := hts (.fieldLink RX1 15 "TelegraphDesk$Message" "count" "I") (by decide +kernel)
  have hi_1 : ∀ w ∈ wsX10, w ∈ wsX1_append := by decide +kernel
  refine lv_aload_n hx hb dX1_append_0 rfl (lv_at hl 0 rfl) ?_
  refine z_roV (As := []) (rest := []) ⟨hx, hb, hml, hown, hts⟩ (c_X1_isFull l D cI m0 m1 n (by omega)) (cwV 0 hts gX1_append_X1_isFull rfl rfl rfl hd_X1_isFull ⟨Nat.le_of_ble_eq_true rfl, Nat.le_of_ble_eq_true rfl⟩) ⟨hK, hE⟩ (hP.sub (ws' := [(m0, .inr (1, [.ref m1, .int (nI n)]))]) [0] rfl) (va_recv hK hP (ci := 1) (q0 := 0) rfl rfl) rfl hl.1 rfl (Nat.le_of_ble_eq_true rfl) dX1_append_1 (Nat.zero_le _) (Nat.zero_le _) ?_
  refine z_if_eqP (tgt := 8) hx hb dX1_append_4 (by decide) (fun c_4 => ?_) (fun c_4 => ?_)
  · refine lv_aload_n hx hb dX1_append_8 rfl (lv_at hl 0 rfl) ?_
    refine va_get (v := .ref m1) hx hb hts hi_1 hown hK hP 0 rfl rfl 0 (by decide) f_9 (fun _ h => h) rfl dX1_append_9 ?_
    refine lv_aload_n hx hb dX1_append_12 rfl (lv_at hl 0 rfl) ?_
    refine va_get (v := .int (nI n)) hx hb hts hi_1 hown hK hP 0 rfl rfl 1 (by decide) f_15 (fun _ h => h) rfl dX1_append_13 ?_
    refine lv_iload_n hx hb dX1_append_16 rfl (lv_at hl 1 rfl) ?_
    refine z_iastN hx hb hK hP hD rfl hS 1 0 rfl rfl (by omega) (by omega) dX1_append_17 (fun H locs hP hS => ?_)
    have hP : va_P D vwCl [(m0, .inr (1, [.ref m1, .int (nI n)])), (m1, .inl (cI, 24, .inl (nA (updN t n x))))] H := hP
    refine lv_aload_n hx hb dX1_append_18 rfl (lv_at hl 0 rfl) ?_
    refine lv_dup hx hb dX1_append_19 rfl ?_
    refine va_get (v := .int (nI n)) hx hb hts hi_1 hown hK hP 0 rfl rfl 1 (by decide) f_15 (fun _ h => h) rfl dX1_append_20 ?_
    refine lv_iconst (v := nI 1) hx hb dX1_append_23 ci_1 ?_
    refine z_iadd hx hb dX1_append_24 ?_
    refine z_put hx hb hts hi_1 tyX1 tyX1_ok nmX1 hown hK hP hD rfl hS 0 rfl rfl 1 (by decide) f_15 (fun _ h => h) rfl (by decide +kernel) (Nat.le_of_ble_eq_true rfl) dX1_append_25 (fun H locs hP hS => ?_)
    have hP : va_P D vwCl [(m0, .inr (1, [.ref m1, .int (nI (n + 1))])), (m1, .inl (cI, 24, .inl (nA (updN t n x))))] H := hP
    exact mu_vret hA hQ hx hb hr hlocks () hP hS rfl dX1_append_28
  · exact absurd hn (by omega)
set_option maxHeartbeats 4000000 in
set_option maxRecDepth 100000 in
theorem c_X1_removeLast (l : Launch) (D : va_G) (cI : ClassId) (m0 : Nat) (m1 : Nat) (t : Nat → Nat) (n : Nat) (hn : n ≤ 24) (hn0 : 0 < n) : MU l yX1_removeLast wsX1_removeLast rm_X1_removeLast D cI [(m0, .inr (1, [.ref m1, .int (nI n)])), (m1, .inl (cI, 24, .inl (nA t)))] [.ref m0] (fun (v9 : Option Value) (u9 : Unit) => v9 = none) (fun (u9 : Unit) => [(m0, .inr (1, [.ref m1, .int (nI (n - 1))])), (m1, .inl (cI, 24, .inl (nA t)))]) := by
  refine mu_of (C := RX1) (cc := cX1_removeLast) (maxL := 1) (ret := none) rfl (by decide) rfl (Nat.le_of_ble_eq_true rfl) ?_
  intro pg ev sv mi ag bl mt cd ls Q A hA hQ hx hb hr hlocks hml hts hown hK hE hD H locs hP hS hl
  have hD : zDD A [m0, m1] := hD
  have hl : lv_has ls 1 [(0, .ref m0)] := hl
  have f_15 := hts (.fieldLink RX1 15 "TelegraphDesk$Message" "count" "I") (by decide +kernel)
  have hi_1 : ∀ w ∈ wsX10, w ∈ wsX1_removeLast := by decide +kernel
  refine lv_aload_n hx hb dX1_removeLast_0 rfl (lv_at hl 0 rfl) ?_
  refine lv_iconst (v := nI 0) hx hb dX1_removeLast_1 ci_0 ?_
  refine lv_aload_n hx hb dX1_removeLast_2 rfl (lv_at hl 0 rfl) ?_
  refine va_get (v := .int (nI n)) hx hb hts hi_1 hown hK hP 0 rfl rfl 1 (by decide) f_15 (fun _ h => h) rfl dX1_removeLast_3 ?_
  refine lv_iconst (v := nI 1) hx hb dX1_removeLast_6 ci_1 ?_
  refine z_isub hx hb dX1_removeLast_7 (by omega) ?_
  refine va_mmax hx hb (by rw [hml]; exact hl.1.symm) hown (hts (.methodLink RX1 43 Lib.Math.max.name) (by decide +kernel)) (hts (.static Lib.Math.max.name) (by decide +kernel)) (hts (.initialized "java/lang/Math") (by decide +kernel)) (hts (.code Lib.Math.max.name Lib.Math.max.code 2 (some .int)) (by decide +kernel)) (Nat.le_of_ble_eq_true rfl) (Nat.le_of_ble_eq_true rfl) (Nat.zero_le _) (Nat.zero_le _) dX1_removeLast_8 ?_
  refine z_top (y := nI (n - 1)) (z_max0 (by omega)) ?_
  refine z_put hx hb hts hi_1 tyX1 tyX1_ok nmX1 hown hK hP hD rfl hS 0 rfl rfl 1 (by decide) f_15 (fun _ h => h) rfl (by decide +kernel) (Nat.le_of_ble_eq_true rfl) dX1_removeLast_11 (fun H locs hP hS => ?_)
  have hP : va_P D vwCl [(m0, .inr (1, [.ref m1, .int (nI (n - 1))])), (m1, .inl (cI, 24, .inl (nA t)))] H := hP
  exact mu_vret hA hQ hx hb hr hlocks () hP hS rfl dX1_removeLast_14
set_option maxHeartbeats 4000000 in
set_option maxRecDepth 100000 in
theorem c_X1_removeAll (l : Launch) (D : va_G) (cI : ClassId) (m0 : Nat) (m1 : Nat) (t : Nat → Nat) (n : Nat) : MU l yX1_removeAll wsX1_removeAll rm_X1_removeAll D cI [(m0, .inr (1, [.ref m1, .int (nI n)])), (m1, .inl (cI, 24, .inl (nA t)))] [.ref m0] (fun (v9 : Option Value) (u9 : Unit) => v9 = none) (fun (u9 : Unit) => [(m0, .inr (1, [.ref m1, .int (nI 0)])), (m1, .inl (cI, 24, .inl (nA t)))]) := by
  refine mu_of (C := RX1) (cc := cX1_removeAll) (maxL := 1) (ret := none) rfl (by decide) rfl (Nat.le_of_ble_eq_true rfl) ?_
  intro pg ev sv mi ag bl mt cd ls Q A hA hQ hx hb hr hlocks hml hts hown hK hE hD H locs hP hS hl
  have hD : zDD A [m0, m1] := hD
  have hl : lv_has ls 1 [(0, .ref m0)] := hl
  have f_15 := hts (.fieldLink RX1 15 "TelegraphDesk$Message" "count" "I") (by decide +kernel)
  have hi_1 : ∀ w ∈ wsX10, w ∈ wsX1_removeAll := by decide +kernel
  refine lv_aload_n hx hb dX1_removeAll_0 rfl (lv_at hl 0 rfl) ?_
  refine lv_iconst (v := nI 0) hx hb dX1_removeAll_1 ci_0 ?_
  refine z_put hx hb hts hi_1 tyX1 tyX1_ok nmX1 hown hK hP hD rfl hS 0 rfl rfl 1 (by decide) f_15 (fun _ h => h) rfl (by decide +kernel) (Nat.le_of_ble_eq_true rfl) dX1_removeAll_2 (fun H locs hP hS => ?_)
  have hP : va_P D vwCl [(m0, .inr (1, [.ref m1, .int (nI 0)])), (m1, .inl (cI, 24, .inl (nA t)))] H := hP
  exact mu_vret hA hQ hx hb hr hlocks () hP hS rfl dX1_removeAll_5
