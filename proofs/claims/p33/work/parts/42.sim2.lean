theorem hd_X5_groups : yX5_groups.cls = RX5 ∧ yX5_groups.cls ≠ "java/lang/invoke/MethodHandle" ∧ yX5_groups.cls ≠ "java/lang/invoke/VarHandle" ∧ (parseMethodDescriptor yX5_groups.desc).map (fun d => d.parameters.length) = some 0 := by decide +kernel
theorem hd_X5_codeAt : yX5_codeAt.cls = RX5 ∧ yX5_codeAt.cls ≠ "java/lang/invoke/MethodHandle" ∧ yX5_codeAt.cls ≠ "java/lang/invoke/VarHandle" ∧ (parseMethodDescriptor yX5_codeAt.desc).map (fun d => d.parameters.length) = some 2 := by decide +kernel
theorem hd_X5_counted : yX5_counted.cls = RX5 ∧ yX5_counted.cls ≠ "java/lang/invoke/MethodHandle" ∧ yX5_counted.cls ≠ "java/lang/invoke/VarHandle" ∧ (parseMethodDescriptor yX5_counted.desc).map (fun d => d.parameters.length) = some 1 := by decide +kernel
theorem hd_X5_cost : yX5_cost.cls = RX5 ∧ yX5_cost.cls ≠ "java/lang/invoke/MethodHandle" ∧ yX5_cost.cls ≠ "java/lang/invoke/VarHandle" ∧ (parseMethodDescriptor yX5_cost.desc).map (fun d => d.parameters.length) = some 1 := by decide +kernel
theorem hd_X5_send : yX5_send.cls = RX5 ∧ yX5_send.cls ≠ "java/lang/invoke/MethodHandle" ∧ yX5_send.cls ≠ "java/lang/invoke/VarHandle" ∧ (parseMethodDescriptor yX5_send.desc).map (fun d => d.parameters.length) = some 2 := by decide +kernel
abbrev rm_X5_groups : Room := { frames := 2, cells := 3, slots := 52, locals := 54 }
abbrev rm_X5_codeAt : Room := { frames := 1, cells := 0, slots := 0, locals := 23 }
abbrev rm_X5_counted : Room := { frames := 2, cells := 3, slots := 52, locals := 54 }
abbrev rm_X5_cost : Room := { frames := 3, cells := 3, slots := 52, locals := 78 }
abbrev rm_X5_send : Room := { frames := 1, cells := 1, slots := 4, locals := 21 }
set_option maxHeartbeats 4000000 in
set_option maxRecDepth 100000 in
theorem c_X5_groups (l : Launch) (D : va_G) (cI : ClassId) (y0 : Nat) (yk : Nat) (ym : Nat) (q : Nat) (sg : Nat) (rp : Nat) (lo : Nat) (ea : Int32) (R : Nat → Nat) (T : Nat → Int32) (Lf : Nat → Nat) (k : Nat) (t : Nat → Nat) (n : Nat) (f : Nat → Nat) (lf : Nat → Nat) (C : Nat → Int32) (ps : Nat → Nat) (cnt : Nat) (hn : n ≤ 24) (hk : k ≤ 8) (hL : ∀ c, c < k → 2 ≤ Lf c ∧ Lf c ≤ 4) (hpart : PartC t n T Lf k (-1) 0 0 f lf C ps cnt) (sz : Nat) : FR l yX5_groups wsX5_groups rm_X5_groups D cI ((y0, .inr (5, [.ref yk, .ref ym, .int (nI q), .int (nI sg), .int (nI rp), .int (nI lo), .int ea])) :: (ym, .inl (cI, n, .inl (nA t))) :: (yk, .inl (zQ D, k, .inr (.inr (.inr (.inr (zrf R)))))) :: rwW cI R Lf T k) [.ref y0] sz (fun (v9 : Option Value) (u9 : Unit) => v9 = some (.int (nI cnt))) (fun (u9 : Unit) => []) 3 52 := by
  refine fr_of (C := RX5) (cc := cX5_groups) (maxL := 1) (ret := (some .int)) rfl (by decide) rfl (Nat.le_of_ble_eq_true rfl) ?_
  intro pg ev sv mi ag bl mt cd ls Q A hA hA2 hQ hx hb hr hlocks hml hts hown _ hK hE hP0 hD0 H locs hP hS hl
  have hP0 : va_P D vwCl ((y0, .inr (5, [.ref yk, .ref ym, .int (nI q), .int (nI sg), .int (nI rp), .int (nI lo), .int ea])) :: (ym, .inl (cI, n, .inl (nA t))) :: (yk, .inl (zQ D, k, .inr (.inr (.inr (.inr (zrf R)))))) :: rwW cI R Lf T k) sv.heap := hP0
  have hD : zDD A [] := zDD.of hD0
  have hP : va_P D vwCl [] H := hP
  have hl : lv_has ls 1 [(0, .ref y0)] := hl
  have f_9 := hts (.fieldLink RX5 9 "TelegraphDeskLaw$Sim" "codes" "[[I") (by decide +kernel)
  have f_15 := hts (.fieldLink RX5 15 "TelegraphDeskLaw$Sim" "message" "[I") (by decide +kernel)
  have hi_5 : ∀ w ∈ wsX50, w ∈ wsX5_groups := by decide +kernel
  refine lv_aload_n hx hb dX5_groups_0 rfl (lv_at hl 0 rfl) ?_
  refine va_get (v := .ref yk) hx hb hts hi_5 hown hK (fr_old hP0 hS hA2) 0 rfl rfl 0 (by decide) f_9 (fun _ h => h) rfl dX5_groups_1 ?_
  refine lv_aload_n hx hb dX5_groups_4 rfl (lv_at hl 0 rfl) ?_
  refine va_get (v := .ref ym) hx hb hts hi_5 hown hK (fr_old hP0 hS hA2) 0 rfl rfl 1 (by decide) f_15 (fun _ h => h) rfl dX5_groups_5 ?_
  refine z_frS (w0 := ((yk, .inl (zQ D, k, .inr (.inr (.inr (.inr (zrf R)))))) :: (ym, .inl (cI, n, .inl (nA t))) :: rwW cI R Lf T k)) (As := [.ref yk, .ref ym]) (rest := []) ⟨hx, hb, hml, hown, hts⟩ (c_X5_parted l D cI yk ym R T Lf k t n f lf C ps cnt (by first | assumption | omega) (by first | assumption | omega) (by first | assumption | omega) (by first | assumption | omega) _) (va_cwS 2 hts gX5_groups_X5_parted rfl rfl rfl hd_X5_parted ⟨Nat.le_of_ble_eq_true rfl, Nat.le_of_ble_eq_true rfl⟩) ⟨hK, hE⟩ (fr_cons ((fr_old hP0 hS hA2) 2 _ rfl) (fr_cons ((fr_old hP0 hS hA2) 1 _ rfl) ((fr_drop 3 (fr_old hP0 hS hA2) rfl)))) hP (hD.to rfl) hS hA rfl hl.1 rfl (Nat.le_of_ble_eq_true rfl) dX5_groups_8 (Nat.le_of_ble_eq_true rfl) (Nat.le_of_ble_eq_true rfl) (fun v9 u9 H locs hp hP hD hS => ?_)
  obtain ⟨z_8, le_8, ma_8⟩ := u9
  obtain rfl := hp
  have hP : va_P D vwCl [(z_8, .inl (zQ D, 2, .inr (.inr (.inr (.inr (zq2 ma_8 le_8)))))), (le_8, .inl (cI, n + 1, .inl (nA (lfz lf n)))), (ma_8, .inl (cI, n + 1, .inl (nA f)))] H := hP
  have hD : zDD A ([z_8, le_8, ma_8]) := zDD.of hD
  refine W.eq (g2 := F0 mi 11 ls [.ref z_8]) rfl ?_
  refine lv_iconst (v := nI 0) hx hb dX5_groups_11 ci_0 ?_
  refine zq_ald (r := ma_8) hx hb hK hE hP 0 rfl (by omega) (by omega) rfl dX5_groups_12 ?_
  refine lv_iconst (v := nI 0) hx hb dX5_groups_13 ci_0 ?_
  refine z_ialdN hx hb hK hP 2 0 rfl rfl (by omega) (by omega) dX5_groups_14 ?_
  exact fr_iret hQ hx hb hr hlocks (Nat.le_of_ble_eq_true rfl) (Nat.le_of_ble_eq_true rfl) () (va_P_nil _ _ _) ⟨fun i j p q h => (by simp at h), fun k q h => (by simp at h)⟩ hS (by rw [cnt_f hpart]) dX5_groups_15
set_option maxHeartbeats 4000000 in
set_option maxRecDepth 100000 in
theorem c_X5_codeAt (l : Launch) (D : va_G) (cI : ClassId) (y0 : Nat) (yk : Nat) (ym : Nat) (q : Nat) (sg : Nat) (rp : Nat) (lo : Nat) (ea : Int32) (R : Nat → Nat) (T : Nat → Int32) (Lf : Nat → Nat) (k : Nat) (t : Nat → Nat) (n : Nat) (f : Nat → Nat) (lf : Nat → Nat) (C : Nat → Int32) (ps : Nat → Nat) (cnt : Nat) (w : Nat) (hn : n ≤ 24) (hk : k ≤ 8) (hL : ∀ c, c < k → 2 ≤ Lf c ∧ Lf c ≤ 4) (hpart : PartC t n T Lf k (-1) 0 0 f lf C ps cnt) (hnd : ∀ c c', c < k → c' < k → Lf c = Lf c' → (∀ p, p < Lf c → T (c * 4 + p) = T (c' * 4 + p)) → c = c') (hw : w < n) (hl1 : lf w ≠ 1) : RO l yX5_codeAt wsX5_codeAt rm_X5_codeAt D cI ((y0, .inr (5, [.ref yk, .ref ym, .int (nI q), .int (nI sg), .int (nI rp), .int (nI lo), .int ea])) :: (ym, .inl (cI, n, .inl (nA t))) :: (yk, .inl (zQ D, k, .inr (.inr (.inr (.inr (zrf R)))))) :: rwW cI R Lf T k) [.ref y0, .int (nI w), .int (nI (lf w))] (.int (C w)) := by
  refine ro_of (C := RX5) (cc := cX5_codeAt) (maxL := 4) (ret := (some .int)) rfl (by decide) rfl (Nat.le_of_ble_eq_true rfl) ?_
  intro pg ev sv mi ag bl mt cd ls Q hQ hx hb hr hlocks hml hts hown hK hE hP hl
  have hP : va_P D vwCl ((y0, .inr (5, [.ref yk, .ref ym, .int (nI q), .int (nI sg), .int (nI rp), .int (nI lo), .int ea])) :: (ym, .inl (cI, n, .inl (nA t))) :: (yk, .inl (zQ D, k, .inr (.inr (.inr (.inr (zrf R)))))) :: rwW cI R Lf T k) sv.heap := hP
  have hl : lv_has ls 4 [(0, .ref y0), (1, .int (nI w)), (2, .int (nI (lf w)))] := hl
  have f_9 := hts (.fieldLink RX5 9 "TelegraphDeskLaw$Sim" "codes" "[[I") (by decide +kernel)
  have f_15 := hts (.fieldLink RX5 15 "TelegraphDeskLaw$Sim" "message" "[I") (by decide +kernel)
  have hi_5 : ∀ w ∈ wsX50, w ∈ wsX5_codeAt := by decide +kernel
  have hlb := hpart.1.2.2.2 w (Nat.zero_le _) hw
  have hgr := grp hpart hk hL hw
  refine lv_iconst (v := nI 0) hx hb dX5_codeAt_0 ci_0 ?_
  refine lv_istore_n (lv' := [(3, .int (nI 0)), (0, .ref y0), (1, .int (nI w)), (2, .int (nI (lf w)))]) hx hb dX5_codeAt_1 rfl hl (by decide) rfl (fun ls hl => ?_)
  have lp_2 : ∀ (Nf : Nat) (i : Nat) (hi : i ≤ k) (hall : ∀ c, c < i → ¬ (Lf c = lf w ∧ mtC t n T Lf (-1) c w)) (hN : k - i < Nf) (ls : Array Slot), lv_has ls 4 [(3, .int (nI i)), (0, .ref y0), (1, .int (nI w)), (2, .int (nI (lf w)))] → W pg l ev rm_X5_codeAt sv mi ag bl mt cd sv.heap [] 0 0 Q (F0 mi 2 ls []) := by
    intro Nf
    induction Nf with
    | zero =>
      intro i hi hall hN
      exact absurd hN (Nat.not_lt_zero _)
    | succ Nf ih_2 =>
      intro i hi hall hN ls hl
      refine lv_iload_n hx hb dX5_codeAt_2 rfl (lv_at hl 0 rfl) ?_
      refine lv_aload_n hx hb dX5_codeAt_3 rfl (lv_at hl 1 rfl) ?_
      refine va_get (v := .ref yk) hx hb hts hi_5 hown hK hP 0 rfl rfl 0 (by decide) f_9 (fun _ h => h) rfl dX5_codeAt_4 ?_
      refine zq_len hx hb hK hE hP 2 rfl dX5_codeAt_7 ?_
      refine z_icmp_ge (tgt := 47) hx hb dX5_codeAt_8 (by decide) (by omega) (by omega) (fun c_8 => ?_) (fun c_8 => ?_)
      · exact absurd (code_ex hgr hl1) (fun ⟨j, hj, h9⟩ => hall j (by omega) h9)
      · have hLi := hL i (by omega)
        refine lv_aload_n hx hb dX5_codeAt_11 rfl (lv_at hl 1 rfl) ?_
        refine va_get (v := .ref yk) hx hb hts hi_5 hown hK hP 0 rfl rfl 0 (by decide) f_9 (fun _ h => h) rfl dX5_codeAt_12 ?_
        refine lv_iload_n hx hb dX5_codeAt_15 rfl (lv_at hl 0 rfl) ?_
        refine zq_ald (r := R i) hx hb hK hE hP 2 rfl (by omega) (by omega) rfl dX5_codeAt_16 ?_
        refine va_alen (v := nI (Lf i)) hx hb hK (rw_get 3 hP rfl (by omega)) 0 0 rfl rfl rfl dX5_codeAt_17 ?_
        refine lv_iload_n hx hb dX5_codeAt_18 rfl (lv_at hl 3 rfl) ?_
        refine z_icmp_ne (tgt := 41) hx hb dX5_codeAt_19 (by decide) (by omega) (by omega) (fun c_19 => ?_) (fun c_19 => ?_)
        · refine lv_iinc (v := nI (i + 1)) (lv' := [(3, .int (nI (i + 1))), (0, .ref y0), (1, .int (nI w)), (2, .int (nI (lf w)))]) hx hb dX5_codeAt_41 hl (k := 0) rfl (z_inc1 _) (by decide) rfl (fun ls hl => ?_)
          refine lv_goto (tgt := 2) hx hb dX5_codeAt_44 (by decide) ?_
          exact ih_2 (i + 1) (by omega) (lt_s hall (fun q => by first | exact c_19 q.1 | exact c_36 ⟨q.2.2.1, q.2.2.2⟩)) (by omega) ls (lv_sub hl [0, 1, 2, 3] rfl)
        · refine lv_aload_n hx hb dX5_codeAt_22 rfl (lv_at hl 1 rfl) ?_
          refine va_get (v := .ref yk) hx hb hts hi_5 hown hK hP 0 rfl rfl 0 (by decide) f_9 (fun _ h => h) rfl dX5_codeAt_23 ?_
          refine lv_iload_n hx hb dX5_codeAt_26 rfl (lv_at hl 0 rfl) ?_
          refine zq_ald (r := R i) hx hb hK hE hP 2 rfl (by omega) (by omega) rfl dX5_codeAt_27 ?_
          refine lv_aload_n hx hb dX5_codeAt_28 rfl (lv_at hl 1 rfl) ?_
          refine va_get (v := .ref ym) hx hb hts hi_5 hown hK hP 0 rfl rfl 1 (by decide) f_15 (fun _ h => h) rfl dX5_codeAt_29 ?_
          refine lv_iload_n hx hb dX5_codeAt_32 rfl (lv_at hl 2 rfl) ?_
          refine z_roS (w0 := [(R i, .inl (cI, (Lf i), .inl (fun p => T (i * 4 + p)))), (ym, .inl (cI, n, .inl (nA t)))]) (As := [.ref (R i), .ref ym, .int (nI w)]) (rest := []) ⟨hx, hb, hml, hown, hts⟩ (c_X5_isThere l D cI (R i) ym (fun p => T (i * 4 + p)) (Lf i) t n w (by have := hL i (by omega); omega) (by first | assumption | omega) (by omega)) (va_cwS 3 hts gX5_codeAt_X5_isThere rfl rfl rfl hd_X5_isThere ⟨Nat.le_of_ble_eq_true rfl, Nat.le_of_ble_eq_true rfl⟩) ⟨hK, hE⟩ (fr_cons ((rw_get 3 hP rfl (by omega)) 0 _ rfl) (fr_cons (hP 1 _ rfl) (va_P_nil _ _ _))) rfl hl.1 rfl (Nat.le_of_ble_eq_true rfl) dX5_codeAt_33 (Nat.zero_le _) (Nat.zero_le _) ?_
          refine z_if_eqP (tgt := 41) hx hb dX5_codeAt_36 (by decide) (fun c_36 => ?_) (fun c_36 => ?_)
          · refine lv_iinc (v := nI (i + 1)) (lv' := [(3, .int (nI (i + 1))), (0, .ref y0), (1, .int (nI w)), (2, .int (nI (lf w)))]) hx hb dX5_codeAt_41 hl (k := 0) rfl (z_inc1 _) (by decide) rfl (fun ls hl => ?_)
            refine lv_goto (tgt := 2) hx hb dX5_codeAt_44 (by decide) ?_
            exact ih_2 (i + 1) (by omega) (lt_s hall (fun q => by first | exact c_19 q.1 | exact c_36 ⟨q.2.2.1, q.2.2.2⟩)) (by omega) ls (lv_sub hl [0, 1, 2, 3] rfl)
          · refine lv_iload_n hx hb dX5_codeAt_39 rfl (lv_at hl 0 rfl) ?_
            exact ro_iret hQ hx hb hr hlocks (code_eq hgr hl1 hnd (by omega) c_19 c_36) dX5_codeAt_40
  exact lp_2 ((k - 0) + 1) 0 (Nat.zero_le _) (fun _ h => absurd h (Nat.not_lt_zero _)) (Nat.lt_succ_self _) ls hl
set_option maxHeartbeats 4000000 in
set_option maxRecDepth 100000 in
theorem c_X5_counted (l : Launch) (D : va_G) (cI : ClassId) (y0 : Nat) (yk : Nat) (ym : Nat) (q : Nat) (sg : Nat) (rp : Nat) (lo : Nat) (ea : Int32) (R : Nat → Nat) (T : Nat → Int32) (Lf : Nat → Nat) (k : Nat) (t : Nat → Nat) (n : Nat) (f : Nat → Nat) (lf : Nat → Nat) (C : Nat → Int32) (ps : Nat → Nat) (cnt : Nat) (kk : Nat) (hn : n ≤ 24) (hk : k ≤ 8) (hL : ∀ c, c < k → 2 ≤ Lf c ∧ Lf c ≤ 4) (ht : ∀ j, j < n → t j < 10) (hpart : PartC t n T Lf k (-1) 0 0 f lf C ps cnt) (sz : Nat) : FR l yX5_counted wsX5_counted rm_X5_counted D cI ((y0, .inr (5, [.ref yk, .ref ym, .int (nI q), .int (nI sg), .int (nI rp), .int (nI lo), .int ea])) :: (ym, .inl (cI, n, .inl (nA t))) :: (kk, .inl (zQ D, k, .inr (.inr (.inr (.inr (zrf R)))))) :: rwW cI R Lf T k) [.ref y0, .ref kk] sz (fun (v9 : Option Value) (u9 : Unit) => v9 = some (.int (nI (sN (ctW C ps t) cnt)))) (fun (u9 : Unit) => []) 3 52 := by
  refine fr_of (C := RX5) (cc := cX5_counted) (maxL := 5) (ret := (some .int)) rfl (by decide) rfl (Nat.le_of_ble_eq_true rfl) ?_
  intro pg ev sv mi ag bl mt cd ls Q A hA hA2 hQ hx hb hr hlocks hml hts hown _ hK hE hP0 hD0 H locs hP hS hl
  have hP0 : va_P D vwCl ((y0, .inr (5, [.ref yk, .ref ym, .int (nI q), .int (nI sg), .int (nI rp), .int (nI lo), .int ea])) :: (ym, .inl (cI, n, .inl (nA t))) :: (kk, .inl (zQ D, k, .inr (.inr (.inr (.inr (zrf R)))))) :: rwW cI R Lf T k) sv.heap := hP0
  have hD : zDD A [] := zDD.of hD0
  have hP : va_P D vwCl [] H := hP
  have hl : lv_has ls 5 [(0, .ref y0), (1, .ref kk)] := hl
  have f_15 := hts (.fieldLink RX5 15 "TelegraphDeskLaw$Sim" "message" "[I") (by decide +kernel)
  have hi_5 : ∀ w ∈ wsX50, w ∈ wsX5_counted := by decide +kernel
  refine lv_aload_n hx hb dX5_counted_0 rfl (lv_at hl 1 rfl) ?_
  refine lv_aload_n hx hb dX5_counted_1 rfl (lv_at hl 0 rfl) ?_
  refine va_get (v := .ref ym) hx hb hts hi_5 hown hK (fr_old hP0 hS hA2) 0 rfl rfl 1 (by decide) f_15 (fun _ h => h) rfl dX5_counted_2 ?_
  refine z_frS (w0 := ((kk, .inl (zQ D, k, .inr (.inr (.inr (.inr (zrf R)))))) :: (ym, .inl (cI, n, .inl (nA t))) :: rwW cI R Lf T k)) (As := [.ref kk, .ref ym]) (rest := []) ⟨hx, hb, hml, hown, hts⟩ (c_X5_parted l D cI kk ym R T Lf k t n f lf C ps cnt (by first | assumption | omega) (by first | assumption | omega) (by first | assumption | omega) (by first | assumption | omega) _) (va_cwS 2 hts gX5_counted_X5_parted rfl rfl rfl hd_X5_parted ⟨Nat.le_of_ble_eq_true rfl, Nat.le_of_ble_eq_true rfl⟩) ⟨hK, hE⟩ (fr_cons ((fr_old hP0 hS hA2) 2 _ rfl) (fr_cons ((fr_old hP0 hS hA2) 1 _ rfl) ((fr_drop 3 (fr_old hP0 hS hA2) rfl)))) hP (hD.to rfl) hS hA rfl hl.1 rfl (Nat.le_of_ble_eq_true rfl) dX5_counted_5 (Nat.le_of_ble_eq_true rfl) (Nat.le_of_ble_eq_true rfl) (fun v9 u9 H locs hp hP hD hS => ?_)
  obtain ⟨z_5, le_5, ma_5⟩ := u9
  obtain rfl := hp
  have hP : va_P D vwCl [(z_5, .inl (zQ D, 2, .inr (.inr (.inr (.inr (zq2 ma_5 le_5)))))), (le_5, .inl (cI, n + 1, .inl (nA (lfz lf n)))), (ma_5, .inl (cI, n + 1, .inl (nA f)))] H := hP
  have hD : zDD A ([z_5, le_5, ma_5]) := zDD.of hD
  refine W.eq (g2 := F0 mi 8 ls [.ref z_5]) rfl ?_
  refine lv_iconst (v := nI 1) hx hb dX5_counted_8 ci_1 ?_
  refine zq_ald (r := le_5) hx hb hK hE hP 0 rfl (by omega) (by omega) rfl dX5_counted_9 ?_
  refine lv_astore_n (lv' := [(2, .ref le_5), (0, .ref y0), (1, .ref kk)]) hx hb dX5_counted_10 rfl hl (by decide) rfl (fun ls hl => ?_)
  refine lv_iconst (v := nI 0) hx hb dX5_counted_11 ci_0 ?_
  refine lv_istore_n (lv' := [(3, .int (nI 0)), (2, .ref le_5), (0, .ref y0), (1, .ref kk)]) hx hb dX5_counted_12 rfl hl (by decide) rfl (fun ls hl => ?_)
  refine lv_iconst (v := nI 0) hx hb dX5_counted_13 ci_0 ?_
  refine lv_istore (lv' := [(4, .int (nI 0)), (3, .int (nI 0)), (2, .ref le_5), (0, .ref y0), (1, .ref kk)]) hx hb dX5_counted_14 hl (by decide) rfl (fun ls hl => ?_)
  have lp_16 : ∀ (Nf : Nat) (g : Nat) (ac : Nat) (hg : g ≤ cnt) (hgp : g ≤ posN lf g ∧ posN lf g ≤ n) (hac : ac = sN (ctW C ps t) g) (hN : n - posN lf g < Nf) (H : Heap) (locs : List Loc) (ls : Array Slot), va_P D vwCl [(z_5, .inl (zQ D, 2, .inr (.inr (.inr (.inr (zq2 ma_5 le_5)))))), (le_5, .inl (cI, n + 1, .inl (nA (lfz lf n)))), (ma_5, .inl (cI, n + 1, .inl (nA f)))] H → va_S A sv.heap H locs → lv_has ls 5 [(4, .int (nI (posN lf g))), (3, .int (nI ac)), (2, .ref le_5), (0, .ref y0), (1, .ref kk)] → W pg l ev rm_X5_counted sv mi ag bl mt cd H locs 3 52 Q (F0 mi 16 ls []) := by
    intro Nf
    induction Nf with
    | zero =>
      intro g ac hg hgp hac hN
      exact absurd hN (Nat.not_lt_zero _)
    | succ Nf ih_16 =>
      intro g ac hg hgp hac hN H locs ls hP hS hl
      refine lv_iload hx hb dX5_counted_16 (lv_at hl 0 rfl) ?_
      refine lv_aload_n hx hb dX5_counted_18 rfl (lv_at hl 3 rfl) ?_
      refine va_get (v := .ref ym) hx hb hts hi_5 hown hK (fr_old hP0 hS hA2) 0 rfl rfl 1 (by decide) f_15 (fun _ h => h) rfl dX5_counted_19 ?_
      refine va_alen (v := nI n) hx hb hK (fr_old hP0 hS hA2) 1 0 rfl rfl rfl dX5_counted_22 ?_
      refine z_icmp_ge (tgt := 66) hx hb dX5_counted_23 (by decide) (by omega) (by omega) (fun c_23 => ?_) (fun c_23 => ?_)
      · refine lv_iload_n hx hb dX5_counted_66 rfl (lv_at hl 1 rfl) ?_
        exact fr_iret hQ hx hb hr hlocks (Nat.le_of_ble_eq_true rfl) (Nat.le_of_ble_eq_true rfl) () (va_P_nil _ _ _) ⟨fun i j p q h => (by simp at h), fun k q h => (by simp at h)⟩ hS (by rw [hac, pos_end hpart hg c_23]) dX5_counted_67
      · have hgc : g < cnt := by rcases Nat.lt_or_ge g cnt with z | z; exact z; exact absurd (show g = cnt by omega) (fun z => by rw [z, hpart.2.2.1] at c_23; exact Nat.lt_irrefl _ c_23)
        have hlb := hpart.1.2.2.2 (posN lf g) (Nat.zero_le _) c_23
        have htb := ht (posN lf g) c_23
        have hacb := sN_le (f := ctW C ps t) (b := 2) g (fun j _ => ctW_le C ps t j)
        refine lv_iload_n hx hb dX5_counted_26 rfl (lv_at hl 1 rfl) ?_
        refine lv_aload_n hx hb dX5_counted_27 rfl (lv_at hl 2 rfl) ?_
        refine lv_iload hx hb dX5_counted_28 (lv_at hl 0 rfl) ?_
        refine z_ialdN hx hb hK hP 1 0 rfl rfl (by omega) (by omega) dX5_counted_30 ?_
        refine z_top (y := nI (lf (posN lf g))) (congrArg nI (lfz_in c_23)) ?_
        refine lv_iconst (v := nI 1) hx hb dX5_counted_31 ci_1 ?_
        refine z_icmp_ne (tgt := 51) hx hb dX5_counted_32 (by decide) (by omega) (by omega) (fun c_32 => ?_) (fun c_32 => ?_)
        · refine lv_iconst (v := nI 1) hx hb dX5_counted_51 ci_1 ?_
          refine z_iadd hx hb dX5_counted_52 ?_
          refine lv_istore_n (lv' := [(3, .int (nI (ac + 1))), (4, .int (nI (posN lf g))), (2, .ref le_5), (0, .ref y0), (1, .ref kk)]) hx hb dX5_counted_53 rfl hl (by decide) rfl (fun ls hl => ?_)
          refine lv_iload hx hb dX5_counted_54 (lv_at hl 1 rfl) ?_
          refine lv_aload_n hx hb dX5_counted_56 rfl (lv_at hl 2 rfl) ?_
          refine lv_iload hx hb dX5_counted_57 (lv_at hl 1 rfl) ?_
          refine z_ialdN hx hb hK hP 1 0 rfl rfl (by omega) (by omega) dX5_counted_59 ?_
          refine z_top (y := nI (lf (posN lf g))) (congrArg nI (lfz_in c_23)) ?_
          refine z_iadd hx hb dX5_counted_60 ?_
          refine lv_istore (lv' := [(4, .int (nI ((posN lf g) + (lf (posN lf g))))), (3, .int (nI (ac + 1))), (2, .ref le_5), (0, .ref y0), (1, .ref kk)]) hx hb dX5_counted_61 hl (by decide) rfl (fun ls hl => ?_)
          refine lv_goto (tgt := 16) hx hb dX5_counted_63 (by decide) ?_
          exact ih_16 (g + 1) (ac + 1) (by omega) (show g + 1 ≤ posN lf g + lf (posN lf g) ∧ posN lf g + lf (posN lf g) ≤ n by omega) (by first | (have h9 := ctW_1 hpart hk hL hgc c_32; show ac + 1 = sN (ctW C ps t) g + ctW C ps t g; omega) | (have h9 := ctW_2 hpart hk hL hgc c_32; have h8 : wc (t (posN lf g)) = 1 := if_neg (by omega); show ac + 1 = sN (ctW C ps t) g + ctW C ps t g; omega) | (have h9 := ctW_2 hpart hk hL hgc c_32; have h8 : wc (t (posN lf g)) = 2 := if_pos (by omega); show ac + 2 = sN (ctW C ps t) g + ctW C ps t g; omega)) (show n - (posN lf g + lf (posN lf g)) < Nf by omega) H locs ls hP hS (lv_sub hl [0, 1, 2, 3, 4] rfl)
        · refine lv_aload_n hx hb dX5_counted_35 rfl (lv_at hl 3 rfl) ?_
          refine va_get (v := .ref ym) hx hb hts hi_5 hown hK (fr_old hP0 hS hA2) 0 rfl rfl 1 (by decide) f_15 (fun _ h => h) rfl dX5_counted_36 ?_
          refine lv_iload hx hb dX5_counted_39 (lv_at hl 0 rfl) ?_
          refine z_ialdN hx hb hK (fr_old hP0 hS hA2) 1 0 rfl rfl (by omega) (by omega) dX5_counted_41 ?_
          refine z_bipush (n := 8) hx hb rfl (by decide) dX5_counted_42 ?_
          refine z_icmp_lt (tgt := 51) hx hb dX5_counted_44 (by decide) (by omega) (by omega) (fun c_44 => ?_) (fun c_44 => ?_)
          · refine lv_iconst (v := nI 1) hx hb dX5_counted_51 ci_1 ?_
            refine z_iadd hx hb dX5_counted_52 ?_
            refine lv_istore_n (lv' := [(3, .int (nI (ac + 1))), (4, .int (nI (posN lf g))), (2, .ref le_5), (0, .ref y0), (1, .ref kk)]) hx hb dX5_counted_53 rfl hl (by decide) rfl (fun ls hl => ?_)
            refine lv_iload hx hb dX5_counted_54 (lv_at hl 1 rfl) ?_
            refine lv_aload_n hx hb dX5_counted_56 rfl (lv_at hl 2 rfl) ?_
            refine lv_iload hx hb dX5_counted_57 (lv_at hl 1 rfl) ?_
            refine z_ialdN hx hb hK hP 1 0 rfl rfl (by omega) (by omega) dX5_counted_59 ?_
            refine z_top (y := nI (lf (posN lf g))) (congrArg nI (lfz_in c_23)) ?_
            refine z_iadd hx hb dX5_counted_60 ?_
            refine lv_istore (lv' := [(4, .int (nI ((posN lf g) + (lf (posN lf g))))), (3, .int (nI (ac + 1))), (2, .ref le_5), (0, .ref y0), (1, .ref kk)]) hx hb dX5_counted_61 hl (by decide) rfl (fun ls hl => ?_)
            refine lv_goto (tgt := 16) hx hb dX5_counted_63 (by decide) ?_
            exact ih_16 (g + 1) (ac + 1) (by omega) (show g + 1 ≤ posN lf g + lf (posN lf g) ∧ posN lf g + lf (posN lf g) ≤ n by omega) (by first | (have h9 := ctW_1 hpart hk hL hgc c_32; show ac + 1 = sN (ctW C ps t) g + ctW C ps t g; omega) | (have h9 := ctW_2 hpart hk hL hgc c_32; have h8 : wc (t (posN lf g)) = 1 := if_neg (by omega); show ac + 1 = sN (ctW C ps t) g + ctW C ps t g; omega) | (have h9 := ctW_2 hpart hk hL hgc c_32; have h8 : wc (t (posN lf g)) = 2 := if_pos (by omega); show ac + 2 = sN (ctW C ps t) g + ctW C ps t g; omega)) (show n - (posN lf g + lf (posN lf g)) < Nf by omega) H locs ls hP hS (lv_sub hl [0, 1, 2, 3, 4] rfl)
          · refine lv_iconst (v := nI 2) hx hb dX5_counted_47 ci_2 ?_
            refine lv_goto (tgt := 52) hx hb dX5_counted_48 (by decide) ?_
            refine z_iadd hx hb dX5_counted_52 ?_
            refine lv_istore_n (lv' := [(3, .int (nI (ac + 2))), (4, .int (nI (posN lf g))), (2, .ref le_5), (0, .ref y0), (1, .ref kk)]) hx hb dX5_counted_53 rfl hl (by decide) rfl (fun ls hl => ?_)
            refine lv_iload hx hb dX5_counted_54 (lv_at hl 1 rfl) ?_
            refine lv_aload_n hx hb dX5_counted_56 rfl (lv_at hl 2 rfl) ?_
            refine lv_iload hx hb dX5_counted_57 (lv_at hl 1 rfl) ?_
            refine z_ialdN hx hb hK hP 1 0 rfl rfl (by omega) (by omega) dX5_counted_59 ?_
            refine z_top (y := nI (lf (posN lf g))) (congrArg nI (lfz_in c_23)) ?_
            refine z_iadd hx hb dX5_counted_60 ?_
            refine lv_istore (lv' := [(4, .int (nI ((posN lf g) + (lf (posN lf g))))), (3, .int (nI (ac + 2))), (2, .ref le_5), (0, .ref y0), (1, .ref kk)]) hx hb dX5_counted_61 hl (by decide) rfl (fun ls hl => ?_)
            refine lv_goto (tgt := 16) hx hb dX5_counted_63 (by decide) ?_
            exact ih_16 (g + 1) (ac + 2) (by omega) (show g + 1 ≤ posN lf g + lf (posN lf g) ∧ posN lf g + lf (posN lf g) ≤ n by omega) (by first | (have h9 := ctW_1 hpart hk hL hgc c_32; show ac + 1 = sN (ctW C ps t) g + ctW C ps t g; omega) | (have h9 := ctW_2 hpart hk hL hgc c_32; have h8 : wc (t (posN lf g)) = 1 := if_neg (by omega); show ac + 1 = sN (ctW C ps t) g + ctW C ps t g; omega) | (have h9 := ctW_2 hpart hk hL hgc c_32; have h8 : wc (t (posN lf g)) = 2 := if_pos (by omega); show ac + 2 = sN (ctW C ps t) g + ctW C ps t g; omega)) (show n - (posN lf g + lf (posN lf g)) < Nf by omega) H locs ls hP hS (lv_sub hl [0, 1, 2, 3, 4] rfl)
  exact lp_16 ((n - posN lf 0) + 1) 0 0 (Nat.zero_le _) (⟨Nat.le_refl _, Nat.zero_le _⟩) rfl (Nat.lt_succ_self _) H locs ls hP hS hl
set_option maxHeartbeats 4000000 in
set_option maxRecDepth 100000 in
theorem c_X5_cost (l : Launch) (D : va_G) (cI : ClassId) (y0 : Nat) (yk : Nat) (ym : Nat) (q : Nat) (sg : Nat) (rp : Nat) (lo : Nat) (ea : Int32) (R : Nat → Nat) (T : Nat → Int32) (Lf : Nat → Nat) (k : Nat) (t : Nat → Nat) (n : Nat) (f : Nat → Nat) (lf : Nat → Nat) (C : Nat → Int32) (ps : Nat → Nat) (cnt : Nat) (kk : Nat) (hn : n ≤ 24) (hk : k ≤ 8) (hL : ∀ c, c < k → 2 ≤ Lf c ∧ Lf c ≤ 4) (ht : ∀ j, j < n → t j < 10) (hpart : PartC t n T Lf k (-1) 0 0 f lf C ps cnt) (sz : Nat) : FR l yX5_cost wsX5_cost rm_X5_cost D cI ((y0, .inr (5, [.ref yk, .ref ym, .int (nI q), .int (nI sg), .int (nI rp), .int (nI lo), .int ea])) :: (ym, .inl (cI, n, .inl (nA t))) :: (kk, .inl (zQ D, k, .inr (.inr (.inr (.inr (zrf R)))))) :: rwW cI R Lf T k) [.ref y0, .ref kk] sz (fun (v9 : Option Value) (u9 : Unit) => v9 = some (.int (nI (costN n (sN (ctW C ps t) cnt))))) (fun (u9 : Unit) => []) 3 52 := by
  refine fr_of (C := RX5) (cc := cX5_cost) (maxL := 3) (ret := (some .int)) rfl (by decide) rfl (Nat.le_of_ble_eq_true rfl) ?_
  intro pg ev sv mi ag bl mt cd ls Q A hA hA2 hQ hx hb hr hlocks hml hts hown _ hK hE hP0 hD0 H locs hP hS hl
  have hP0 : va_P D vwCl ((y0, .inr (5, [.ref yk, .ref ym, .int (nI q), .int (nI sg), .int (nI rp), .int (nI lo), .int ea])) :: (ym, .inl (cI, n, .inl (nA t))) :: (kk, .inl (zQ D, k, .inr (.inr (.inr (.inr (zrf R)))))) :: rwW cI R Lf T k) sv.heap := hP0
  have hD : zDD A [] := zDD.of hD0
  have hP : va_P D vwCl [] H := hP
  have hl : lv_has ls 3 [(0, .ref y0), (1, .ref kk)] := hl
  have f_15 := hts (.fieldLink RX5 15 "TelegraphDeskLaw$Sim" "message" "[I") (by decide +kernel)
  have hi_5 : ∀ w ∈ wsX50, w ∈ wsX5_cost := by decide +kernel
  refine lv_aload_n hx hb dX5_cost_0 rfl (lv_at hl 0 rfl) ?_
  refine lv_aload_n hx hb dX5_cost_1 rfl (lv_at hl 1 rfl) ?_
  refine z_frV (w0 := ((y0, .inr (5, [.ref yk, .ref ym, .int (nI q), .int (nI sg), .int (nI rp), .int (nI lo), .int ea])) :: (ym, .inl (cI, n, .inl (nA t))) :: (kk, .inl (zQ D, k, .inr (.inr (.inr (.inr (zrf R)))))) :: rwW cI R Lf T k)) (As := [.ref kk]) (rest := []) ⟨hx, hb, hml, hown, hts⟩ (c_X5_counted l D cI y0 yk ym q sg rp lo ea R T Lf k t n f lf C ps cnt kk (by first | assumption | omega) (by first | assumption | omega) (by first | assumption | omega) (by first | assumption | omega) (by first | assumption | omega) _) (cwV 1 hts gX5_cost_X5_counted rfl rfl rfl hd_X5_counted ⟨Nat.le_of_ble_eq_true rfl, Nat.le_of_ble_eq_true rfl⟩) ⟨hK, hE⟩ (fr_cons ((fr_old hP0 hS hA2) 0 _ rfl) (fr_cons ((fr_old hP0 hS hA2) 1 _ rfl) (fr_cons ((fr_old hP0 hS hA2) 2 _ rfl) ((fr_drop 3 (fr_old hP0 hS hA2) rfl))))) hP (hD.to rfl) hS hA (va_recv hK (fr_old hP0 hS hA2) (ci := 5) (q0 := 0) rfl rfl) rfl hl.1 rfl (Nat.le_of_ble_eq_true rfl) dX5_cost_2 (Nat.le_of_ble_eq_true rfl) (Nat.le_of_ble_eq_true rfl) (fun v9 u9 H locs hp hP hD hS => ?_)
  obtain rfl := hp
  have hP : va_P D vwCl [] H := hP
  have hD : zDD A ([]) := zDD.of hD
  refine W.eq (g2 := F0 mi 5 ls [.int (nI (sN (ctW C ps t) cnt))]) rfl ?_
  have hcl := sN_le (f := ctW C ps t) (b := 2) cnt (fun j _ => ctW_le C ps t j)
  have hcn := hpart.2.2.2
  refine lv_istore_n (lv' := [(2, .int (nI (sN (ctW C ps t) cnt))), (0, .ref y0), (1, .ref kk)]) hx hb dX5_cost_5 rfl hl (by decide) rfl (fun ls hl => ?_)
  refine lv_aload_n hx hb dX5_cost_6 rfl (lv_at hl 1 rfl) ?_
  refine va_get (v := .ref ym) hx hb hts hi_5 hown hK (fr_old hP0 hS hA2) 0 rfl rfl 1 (by decide) f_15 (fun _ h => h) rfl dX5_cost_7 ?_
  refine va_alen (v := nI n) hx hb hK (fr_old hP0 hS hA2) 1 0 rfl rfl rfl dX5_cost_10 ?_
  refine z_if_ne (tgt := 18) hx hb dX5_cost_11 (by decide) (by omega) (fun c_11 => ?_) (fun c_11 => ?_)
  · refine lv_iload_n hx hb dX5_cost_18 rfl (lv_at hl 0 rfl) ?_
    refine z_bipush (n := 11) hx hb rfl (by decide) dX5_cost_19 ?_
    refine z_icmp_ge (tgt := 29) hx hb dX5_cost_21 (by decide) (by omega) (by omega) (fun c_21 => ?_) (fun c_21 => ?_)
    · refine lv_iconst (v := nI 3) hx hb dX5_cost_29 ci_3 ?_
      refine lv_iload_n hx hb dX5_cost_30 rfl (lv_at hl 0 rfl) ?_
      refine z_imul hx hb dX5_cost_31 ?_
      refine z_bipush (n := 10) hx hb rfl (by decide) dX5_cost_32 ?_
      refine z_isub hx hb dX5_cost_34 (by omega) ?_
      exact fr_iret hQ hx hb hr hlocks (Nat.le_of_ble_eq_true rfl) (Nat.le_of_ble_eq_true rfl) () hP ⟨fun i j p q h => (by simp at h), fun k q h => (by simp at h)⟩ hS (by unfold costN; first | (rw [if_pos (by omega)]; done) | (rw [if_neg (by omega), show sN (ctW C ps t) cnt - 10 = 0 by omega]; done) | (rw [if_neg (by omega), show 20 + 3 * (sN (ctW C ps t) cnt - 10) = 3 * sN (ctW C ps t) cnt - 10 by omega]; done)) dX5_cost_35
    · refine z_bipush (n := 20) hx hb rfl (by decide) dX5_cost_24 ?_
      refine lv_goto (tgt := 35) hx hb dX5_cost_26 (by decide) ?_
      exact fr_iret hQ hx hb hr hlocks (Nat.le_of_ble_eq_true rfl) (Nat.le_of_ble_eq_true rfl) () hP ⟨fun i j p q h => (by simp at h), fun k q h => (by simp at h)⟩ hS (by unfold costN; first | (rw [if_pos (by omega)]; done) | (rw [if_neg (by omega), show sN (ctW C ps t) cnt - 10 = 0 by omega]; done) | (rw [if_neg (by omega), show 20 + 3 * (sN (ctW C ps t) cnt - 10) = 3 * sN (ctW C ps t) cnt - 10 by omega]; done)) dX5_cost_35
  · refine lv_iconst (v := nI 0) hx hb dX5_cost_14 ci_0 ?_
    refine lv_goto (tgt := 35) hx hb dX5_cost_15 (by decide) ?_
    exact fr_iret hQ hx hb hr hlocks (Nat.le_of_ble_eq_true rfl) (Nat.le_of_ble_eq_true rfl) () hP ⟨fun i j p q h => (by simp at h), fun k q h => (by simp at h)⟩ hS (by unfold costN; first | (rw [if_pos (by omega)]; done) | (rw [if_neg (by omega), show sN (ctW C ps t) cnt - 10 = 0 by omega]; done) | (rw [if_neg (by omega), show 20 + 3 * (sN (ctW C ps t) cnt - 10) = 3 * sN (ctW C ps t) cnt - 10 by omega]; done)) dX5_cost_35
set_option maxHeartbeats 4000000 in
set_option maxRecDepth 100000 in
theorem c_X5_send (l : Launch) (D : va_G) (cI : ClassId) (y0 : Nat) (yk : Nat) (ym : Nat) (q : Nat) (sg : Nat) (rp : Nat) (lo : Nat) (ea : Int32) (g : Nat) (q2 : Nat) (hg : g ≤ 24) (hq2 : q2 ≤ 9) (hsg : sg ≤ 60000) (sz : Nat) : FR l yX5_send wsX5_send rm_X5_send D cI [(y0, .inr (5, [.ref yk, .ref ym, .int (nI q), .int (nI sg), .int (nI rp), .int (nI lo), .int ea]))] [.ref y0, .int (nI g), .int (nI q2)] sz (fun (v9 : Option Value) (u9 : Nat) => v9 = some (.ref u9)) (fun (u9 : Nat) => [(u9, .inl (cI, 4, .inl (nA (zs4 (g + akN q2 sg g) (akN q2 sg g) (gnN q2 sg g) (gfN q2 sg g)))))]) 1 4 := by
  refine fr_of (C := RX5) (cc := cX5_send) (maxL := 6) (ret := (some (.array .int))) rfl (by decide) rfl (Nat.le_of_ble_eq_true rfl) ?_
  intro pg ev sv mi ag bl mt cd ls Q A hA hA2 hQ hx hb hr hlocks hml hts hown _ hK hE hP0 hD0 H locs hP hS hl
  have hP0 : va_P D vwCl [(y0, .inr (5, [.ref yk, .ref ym, .int (nI q), .int (nI sg), .int (nI rp), .int (nI lo), .int ea]))] sv.heap := hP0
  have hD : zDD A [] := zDD.of hD0
  have hP : va_P D vwCl [] H := hP
  have hl : lv_has ls 6 [(0, .ref y0), (1, .int (nI g)), (2, .int (nI q2))] := hl
  have f_34 := hts (.fieldLink RX5 34 "TelegraphDeskLaw$Sim" "sent" "I") (by decide +kernel)
  have hi_5 : ∀ w ∈ wsX50, w ∈ wsX5_send := by decide +kernel
  refine lv_iconst (v := nI 4) hx hb dX5_send_0 ci_4 ?_
  refine zf_newaN (B := 4) hx hb (hts (.arrayClass .int) (by decide +kernel)) hK hP (hD.to rfl) hS hA (by decide) (by decide) (Nat.le_of_ble_eq_true rfl) (Nat.le_of_ble_eq_true rfl) dX5_send_1 (fun z H hP hD hS => ?_)
  have hP : va_P D vwCl [(z, .inl (cI, 4, .inl (nA (fun _ => 0))))] H := hP
  have hD : zDD A ([z]) := zDD.of hD
  refine lv_astore_n (lv' := [(3, .ref z), (0, .ref y0), (1, .int (nI g)), (2, .int (nI q2))]) hx hb dX5_send_3 rfl hl (by decide) rfl (fun ls hl => ?_)
  refine lv_iconst (v := nI 0) hx hb dX5_send_4 ci_0 ?_
  refine lv_istore (lv' := [(4, .int (nI 0)), (3, .ref z), (0, .ref y0), (1, .int (nI g)), (2, .int (nI q2))]) hx hb dX5_send_5 hl (by decide) rfl (fun ls hl => ?_)
  have lp_7 : ∀ (Nf : Nat) (i : Nat) (Z : Nat → Nat) (hi : i ≤ g) (hZ : Z 0 = i + akN q2 sg i ∧ Z 1 = akN q2 sg i ∧ Z 2 = gnN q2 sg i ∧ Z 3 = gfN q2 sg i) (hN : g - i < Nf) (H : Heap) (locs : List Loc) (ls : Array Slot), va_P D vwCl [(z, .inl (cI, 4, .inl (nA Z)))] H → va_S A sv.heap H locs → lv_has ls 6 [(4, .int (nI i)), (3, .ref z), (0, .ref y0), (1, .int (nI g)), (2, .int (nI q2))] → W pg l ev rm_X5_send sv mi ag bl mt cd H locs 1 4 Q (F0 mi 7 ls []) := by
    intro Nf
    induction Nf with
    | zero =>
      intro i Z hi hZ hN
      exact absurd hN (Nat.not_lt_zero _)
    | succ Nf ih_7 =>
      intro i Z hi hZ hN H locs ls hP hS hl
      refine lv_iload hx hb dX5_send_7 (lv_at hl 0 rfl) ?_
      refine lv_iload_n hx hb dX5_send_9 rfl (lv_at hl 3 rfl) ?_
      refine z_icmp_ge (tgt := 124) hx hb dX5_send_10 (by decide) (by omega) (by omega) (fun c_10 => ?_) (fun c_10 => ?_)
      · refine lv_aload_n hx hb dX5_send_124 rfl (lv_at hl 1 rfl) ?_
        have hig : i = g := by omega
        have hP := fr_setI hP 0 (nA (zs4 (g + akN q2 sg g) (akN q2 sg g) (gnN q2 sg g) (gfN q2 sg g))) rfl (fun j hj => congrArg nI (by
          rw [← hig]
          rcases (by omega : j = 0 ∨ j = 1 ∨ j = 2 ∨ j = 3) with rfl | rfl | rfl | rfl
          · exact hZ.1
          · exact hZ.2.1
          · exact hZ.2.2.1
          · exact hZ.2.2.2))
        have hP : va_P D vwCl [(z, .inl (cI, 4, .inl (nA (zs4 (g + akN q2 sg g) (akN q2 sg g) (gnN q2 sg g) (gfN q2 sg g)))))] H := hP
        exact fr_aret hQ hx hb hr (Or.inr ⟨_, rfl⟩) hlocks (Nat.le_of_ble_eq_true rfl) (Nat.le_of_ble_eq_true rfl) (z) hP (hD.to rfl) hS rfl dX5_send_125
      · have hla := line_all q2 sg i
        have hab := hla.2.2.1
        have hse : seN q2 sg i = sg + Z 0 := by rw [hZ.1]; exact hla.2.2.2.2
        have hzb : Z 0 ≤ 100 ∧ Z 1 ≤ 100 ∧ Z 2 ≤ 100 ∧ Z 3 ≤ 100 := by rw [hZ.1, hZ.2.1, hZ.2.2.1, hZ.2.2.2]; omega
        refine lv_iconst (v := nI 1) hx hb dX5_send_13 ci_1 ?_
        refine lv_istore (lv' := [(5, .int (nI 1)), (4, .int (nI i)), (3, .ref z), (0, .ref y0), (1, .int (nI g)), (2, .int (nI q2))]) hx hb dX5_send_14 hl (by decide) rfl (fun ls hl => ?_)
        have lp_16 : ∀ (Nf : Nat) (r : Nat) (hr3 : r ≤ 3) (hall : ∀ j, j < r → gB q2 (seN q2 sg i + 1 + j)) (hN : 3 - r < Nf) (H : Heap) (locs : List Loc) (ls : Array Slot), va_P D vwCl [(z, .inl (cI, 4, .inl (nA Z)))] H → va_S A sv.heap H locs → lv_has ls 6 [(5, .int (nI (r + 1))), (4, .int (nI i)), (3, .ref z), (0, .ref y0), (1, .int (nI g)), (2, .int (nI q2))] → W pg l ev rm_X5_send sv mi ag bl mt cd H locs 1 4 Q (F0 mi 16 ls []) := by
          intro Nf
          induction Nf with
          | zero =>
            intro r hr3 hall hN
            exact absurd hN (Nat.not_lt_zero _)
          | succ Nf ih_16 =>
            intro r hr3 hall hN H locs ls hP hS hl
            refine lv_aload_n hx hb dX5_send_16 rfl (lv_at hl 3 rfl) ?_
            refine va_get (v := .int (nI sg)) hx hb hts hi_5 hown hK (fr_old hP0 hS hA2) 0 rfl rfl 3 (by decide) f_34 (fun _ h => h) rfl dX5_send_17 ?_
            refine lv_aload_n hx hb dX5_send_20 rfl (lv_at hl 2 rfl) ?_
            refine lv_iconst (v := nI 0) hx hb dX5_send_21 ci_0 ?_
            refine z_ialdN hx hb hK hP 0 0 rfl rfl (by omega) (by omega) dX5_send_22 ?_
            refine z_iadd hx hb dX5_send_23 ?_
            refine lv_iload hx hb dX5_send_24 (lv_at hl 0 rfl) ?_
            refine z_iadd hx hb dX5_send_26 ?_
            refine lv_iload_n hx hb dX5_send_27 rfl (lv_at hl 5 rfl) ?_
            refine z_roS (w0 := []) (As := [.int (nI ((sg + (Z 0)) + (r + 1))), .int (nI q2)]) (rest := []) ⟨hx, hb, hml, hown, hts⟩ (c_X5_isGarbled l D cI ((sg + (Z 0)) + (r + 1)) q2 (by omega) hq2) (va_cwS 2 hts gX5_send_X5_isGarbled rfl rfl rfl hd_X5_isGarbled ⟨Nat.le_of_ble_eq_true rfl, Nat.le_of_ble_eq_true rfl⟩) ⟨hK, hE⟩ (va_P_nil _ _ _) rfl hl.1 rfl (Nat.le_of_ble_eq_true rfl) dX5_send_28 (Nat.le_of_ble_eq_true rfl) (Nat.le_of_ble_eq_true rfl) ?_
            refine z_if_eqP (tgt := 46) hx hb dX5_send_31 (by decide) (fun c_31 => ?_) (fun c_31 => ?_)
            · have hr := rpt_of (q := q2) (s := seN q2 sg i) hr3 hall (Or.inr (by rw [hse, show sg + Z 0 + 1 + r = sg + Z 0 + (r + 1) by omega]; exact c_31))
              refine lv_aload_n hx hb dX5_send_46 rfl (lv_at hl 2 rfl) ?_
              refine lv_iconst (v := nI 3) hx hb dX5_send_47 ci_3 ?_
              refine lv_dup2_11 hx hb dX5_send_48 rfl rfl ?_
              refine z_ialdN hx hb hK hP 0 0 rfl rfl (by omega) (by omega) dX5_send_49 ?_
              refine lv_aload_n hx hb dX5_send_50 rfl (lv_at hl 3 rfl) ?_
              refine va_get (v := .int (nI sg)) hx hb hts hi_5 hown hK (fr_old hP0 hS hA2) 0 rfl rfl 3 (by decide) f_34 (fun _ h => h) rfl dX5_send_51 ?_
              refine lv_aload_n hx hb dX5_send_54 rfl (lv_at hl 2 rfl) ?_
              refine lv_iconst (v := nI 0) hx hb dX5_send_55 ci_0 ?_
              refine z_ialdN hx hb hK hP 0 0 rfl rfl (by omega) (by omega) dX5_send_56 ?_
              refine z_iadd hx hb dX5_send_57 ?_
              refine lv_iconst (v := nI 1) hx hb dX5_send_58 ci_1 ?_
              refine z_iadd hx hb dX5_send_59 ?_
              refine lv_iload_n hx hb dX5_send_60 rfl (lv_at hl 5 rfl) ?_
              refine z_roS (w0 := []) (As := [.int (nI ((sg + (Z 0)) + 1)), .int (nI q2)]) (rest := [.int (nI (Z 3)), .int (nI 3), .ref z]) ⟨hx, hb, hml, hown, hts⟩ (c_X5_isGarbled l D cI ((sg + (Z 0)) + 1) q2 (by omega) hq2) (va_cwS 2 hts gX5_send_X5_isGarbled rfl rfl rfl hd_X5_isGarbled ⟨Nat.le_of_ble_eq_true rfl, Nat.le_of_ble_eq_true rfl⟩) ⟨hK, hE⟩ (va_P_nil _ _ _) rfl hl.1 rfl (Nat.le_of_ble_eq_true rfl) dX5_send_61 (Nat.le_of_ble_eq_true rfl) (Nat.le_of_ble_eq_true rfl) ?_
              refine z_if_eqP (tgt := 71) hx hb dX5_send_64 (by decide) (fun c_64 => ?_) (fun c_64 => ?_)
              · refine lv_iconst (v := nI 0) hx hb dX5_send_71 ci_0 ?_
                refine z_iadd hx hb dX5_send_72 ?_
                refine z_iastN hx hb hK hP hD rfl hS 0 0 rfl rfl (by omega) (by omega) dX5_send_73 (fun H locs hP hS => ?_)
                have hP : va_P D vwCl [(z, .inl (cI, 4, .inl (nA (updN Z 3 ((Z 3) + 0)))))] H := hP
                refine lv_aload_n hx hb dX5_send_74 rfl (lv_at hl 2 rfl) ?_
                refine lv_iconst (v := nI 0) hx hb dX5_send_75 ci_0 ?_
                refine lv_dup2_11 hx hb dX5_send_76 rfl rfl ?_
                refine z_ialdN hx hb hK hP 0 0 rfl rfl (by omega) (by omega) dX5_send_77 ?_
                refine z_top (y := nI (Z 0)) (congrArg nI (updN_n _ (by decide))) ?_
                refine lv_iload hx hb dX5_send_78 (lv_at hl 0 rfl) ?_
                refine z_iadd hx hb dX5_send_80 ?_
                refine z_iastN hx hb hK hP hD rfl hS 0 0 rfl rfl (by omega) (by omega) dX5_send_81 (fun H locs hP hS => ?_)
                have hP : va_P D vwCl [(z, .inl (cI, 4, .inl (nA (updN (updN Z 3 ((Z 3) + 0)) 0 ((Z 0) + (r + 1))))))] H := hP
                refine lv_aload_n hx hb dX5_send_82 rfl (lv_at hl 2 rfl) ?_
                refine lv_iconst (v := nI 1) hx hb dX5_send_83 ci_1 ?_
                refine lv_dup2_11 hx hb dX5_send_84 rfl rfl ?_
                refine z_ialdN hx hb hK hP 0 0 rfl rfl (by omega) (by omega) dX5_send_85 ?_
                refine z_top (y := nI (Z 1)) (congrArg nI ((updN_n _ (by decide)).trans (updN_n _ (by decide)))) ?_
                refine lv_iload hx hb dX5_send_86 (lv_at hl 0 rfl) ?_
                refine lv_iconst (v := nI 1) hx hb dX5_send_88 ci_1 ?_
                refine z_isub hx hb dX5_send_89 (by omega) ?_
                refine z_iadd hx hb dX5_send_90 ?_
                refine z_iastN hx hb hK hP hD rfl hS 0 0 rfl rfl (by omega) (by omega) dX5_send_91 (fun H locs hP hS => ?_)
                have hP : va_P D vwCl [(z, .inl (cI, 4, .inl (nA (updN (updN (updN Z 3 ((Z 3) + 0)) 0 ((Z 0) + (r + 1))) 1 ((Z 1) + ((r + 1) - 1))))))] H := hP
                refine lv_aload_n hx hb dX5_send_92 rfl (lv_at hl 2 rfl) ?_
                refine lv_iconst (v := nI 2) hx hb dX5_send_93 ci_2 ?_
                refine lv_dup2_11 hx hb dX5_send_94 rfl rfl ?_
                refine z_ialdN hx hb hK hP 0 0 rfl rfl (by omega) (by omega) dX5_send_95 ?_
                refine z_top (y := nI (Z 2)) (congrArg nI ((updN_n _ (by decide)).trans ((updN_n _ (by decide)).trans (updN_n _ (by decide))))) ?_
                refine lv_aload_n hx hb dX5_send_96 rfl (lv_at hl 3 rfl) ?_
                refine va_get (v := .int (nI sg)) hx hb hts hi_5 hown hK (fr_old hP0 hS hA2) 0 rfl rfl 3 (by decide) f_34 (fun _ h => h) rfl dX5_send_97 ?_
                refine lv_aload_n hx hb dX5_send_100 rfl (lv_at hl 2 rfl) ?_
                refine lv_iconst (v := nI 0) hx hb dX5_send_101 ci_0 ?_
                refine z_ialdN hx hb hK hP 0 0 rfl rfl (by omega) (by omega) dX5_send_102 ?_
                refine z_top (y := nI (Z 0 + (r + 1))) (congrArg nI ((updN_n _ (by decide)).trans (updN_s _ _ _))) ?_
                refine z_iadd hx hb dX5_send_103 ?_
                refine lv_iload_n hx hb dX5_send_104 rfl (lv_at hl 5 rfl) ?_
                refine z_roS (w0 := []) (As := [.int (nI (sg + (Z 0 + (r + 1)))), .int (nI q2)]) (rest := [.int (nI (Z 2)), .int (nI 2), .ref z]) ⟨hx, hb, hml, hown, hts⟩ (c_X5_isGarbled l D cI (sg + (Z 0 + (r + 1))) q2 (by omega) hq2) (va_cwS 2 hts gX5_send_X5_isGarbled rfl rfl rfl hd_X5_isGarbled ⟨Nat.le_of_ble_eq_true rfl, Nat.le_of_ble_eq_true rfl⟩) ⟨hK, hE⟩ (va_P_nil _ _ _) rfl hl.1 rfl (Nat.le_of_ble_eq_true rfl) dX5_send_105 (Nat.le_of_ble_eq_true rfl) (Nat.le_of_ble_eq_true rfl) ?_
                refine z_if_eqP (tgt := 115) hx hb dX5_send_108 (by decide) (fun c_108 => ?_) (fun c_108 => ?_)
                · refine lv_iconst (v := nI 0) hx hb dX5_send_115 ci_0 ?_
                  refine z_iadd hx hb dX5_send_116 ?_
                  refine z_iastN hx hb hK hP hD rfl hS 0 0 rfl rfl (by omega) (by omega) dX5_send_117 (fun H locs hP hS => ?_)
                  have hP : va_P D vwCl [(z, .inl (cI, 4, .inl (nA (updN (updN (updN (updN Z 3 ((Z 3) + 0)) 0 ((Z 0) + (r + 1))) 1 ((Z 1) + ((r + 1) - 1))) 2 ((Z 2) + 0)))))] H := hP
                  refine lv_iinc (v := nI (i + 1)) (lv' := [(4, .int (nI (i + 1))), (5, .int (nI (r + 1))), (3, .ref z), (0, .ref y0), (1, .int (nI g)), (2, .int (nI q2))]) hx hb dX5_send_118 hl (k := 1) rfl (z_inc1 _) (by decide) rfl (fun ls hl => ?_)
                  refine lv_goto (tgt := 7) hx hb dX5_send_121 (by decide) ?_
                  exact ih_7 (i + 1) (updN (updN (updN (updN Z 3 ((Z 3) + 0)) 0 ((Z 0) + (r + 1))) 1 ((Z 1) + ((r + 1) - 1))) 2 ((Z 2) + 0)) (by omega) (send_step hr3 hse hr hall hZ (by first | exact Or.inl c_31 | exact Or.inr (by omega)) (by first | exact Or.inl ⟨c_64, rfl⟩ | exact Or.inr ⟨c_64, rfl⟩) (by first | exact Or.inl ⟨c_108, rfl⟩ | exact Or.inr ⟨c_108, rfl⟩)) (by omega) H locs ls hP hS (lv_sub hl [0, 2, 3, 4, 5] rfl)
                · refine lv_iconst (v := nI 1) hx hb dX5_send_111 ci_1 ?_
                  refine lv_goto (tgt := 116) hx hb dX5_send_112 (by decide) ?_
                  refine z_iadd hx hb dX5_send_116 ?_
                  refine z_iastN hx hb hK hP hD rfl hS 0 0 rfl rfl (by omega) (by omega) dX5_send_117 (fun H locs hP hS => ?_)
                  have hP : va_P D vwCl [(z, .inl (cI, 4, .inl (nA (updN (updN (updN (updN Z 3 ((Z 3) + 0)) 0 ((Z 0) + (r + 1))) 1 ((Z 1) + ((r + 1) - 1))) 2 ((Z 2) + 1)))))] H := hP
                  refine lv_iinc (v := nI (i + 1)) (lv' := [(4, .int (nI (i + 1))), (5, .int (nI (r + 1))), (3, .ref z), (0, .ref y0), (1, .int (nI g)), (2, .int (nI q2))]) hx hb dX5_send_118 hl (k := 1) rfl (z_inc1 _) (by decide) rfl (fun ls hl => ?_)
                  refine lv_goto (tgt := 7) hx hb dX5_send_121 (by decide) ?_
                  exact ih_7 (i + 1) (updN (updN (updN (updN Z 3 ((Z 3) + 0)) 0 ((Z 0) + (r + 1))) 1 ((Z 1) + ((r + 1) - 1))) 2 ((Z 2) + 1)) (by omega) (send_step hr3 hse hr hall hZ (by first | exact Or.inl c_31 | exact Or.inr (by omega)) (by first | exact Or.inl ⟨c_64, rfl⟩ | exact Or.inr ⟨c_64, rfl⟩) (by first | exact Or.inl ⟨c_108, rfl⟩ | exact Or.inr ⟨c_108, rfl⟩)) (by omega) H locs ls hP hS (lv_sub hl [0, 2, 3, 4, 5] rfl)
              · refine lv_iconst (v := nI 1) hx hb dX5_send_67 ci_1 ?_
                refine lv_goto (tgt := 72) hx hb dX5_send_68 (by decide) ?_
                refine z_iadd hx hb dX5_send_72 ?_
                refine z_iastN hx hb hK hP hD rfl hS 0 0 rfl rfl (by omega) (by omega) dX5_send_73 (fun H locs hP hS => ?_)
                have hP : va_P D vwCl [(z, .inl (cI, 4, .inl (nA (updN Z 3 ((Z 3) + 1)))))] H := hP
                refine lv_aload_n hx hb dX5_send_74 rfl (lv_at hl 2 rfl) ?_
                refine lv_iconst (v := nI 0) hx hb dX5_send_75 ci_0 ?_
                refine lv_dup2_11 hx hb dX5_send_76 rfl rfl ?_
                refine z_ialdN hx hb hK hP 0 0 rfl rfl (by omega) (by omega) dX5_send_77 ?_
                refine z_top (y := nI (Z 0)) (congrArg nI (updN_n _ (by decide))) ?_
                refine lv_iload hx hb dX5_send_78 (lv_at hl 0 rfl) ?_
                refine z_iadd hx hb dX5_send_80 ?_
                refine z_iastN hx hb hK hP hD rfl hS 0 0 rfl rfl (by omega) (by omega) dX5_send_81 (fun H locs hP hS => ?_)
                have hP : va_P D vwCl [(z, .inl (cI, 4, .inl (nA (updN (updN Z 3 ((Z 3) + 1)) 0 ((Z 0) + (r + 1))))))] H := hP
                refine lv_aload_n hx hb dX5_send_82 rfl (lv_at hl 2 rfl) ?_
                refine lv_iconst (v := nI 1) hx hb dX5_send_83 ci_1 ?_
                refine lv_dup2_11 hx hb dX5_send_84 rfl rfl ?_
                refine z_ialdN hx hb hK hP 0 0 rfl rfl (by omega) (by omega) dX5_send_85 ?_
                refine z_top (y := nI (Z 1)) (congrArg nI ((updN_n _ (by decide)).trans (updN_n _ (by decide)))) ?_
                refine lv_iload hx hb dX5_send_86 (lv_at hl 0 rfl) ?_
                refine lv_iconst (v := nI 1) hx hb dX5_send_88 ci_1 ?_
                refine z_isub hx hb dX5_send_89 (by omega) ?_
                refine z_iadd hx hb dX5_send_90 ?_
                refine z_iastN hx hb hK hP hD rfl hS 0 0 rfl rfl (by omega) (by omega) dX5_send_91 (fun H locs hP hS => ?_)
                have hP : va_P D vwCl [(z, .inl (cI, 4, .inl (nA (updN (updN (updN Z 3 ((Z 3) + 1)) 0 ((Z 0) + (r + 1))) 1 ((Z 1) + ((r + 1) - 1))))))] H := hP
                refine lv_aload_n hx hb dX5_send_92 rfl (lv_at hl 2 rfl) ?_
                refine lv_iconst (v := nI 2) hx hb dX5_send_93 ci_2 ?_
                refine lv_dup2_11 hx hb dX5_send_94 rfl rfl ?_
                refine z_ialdN hx hb hK hP 0 0 rfl rfl (by omega) (by omega) dX5_send_95 ?_
                refine z_top (y := nI (Z 2)) (congrArg nI ((updN_n _ (by decide)).trans ((updN_n _ (by decide)).trans (updN_n _ (by decide))))) ?_
                refine lv_aload_n hx hb dX5_send_96 rfl (lv_at hl 3 rfl) ?_
                refine va_get (v := .int (nI sg)) hx hb hts hi_5 hown hK (fr_old hP0 hS hA2) 0 rfl rfl 3 (by decide) f_34 (fun _ h => h) rfl dX5_send_97 ?_
                refine lv_aload_n hx hb dX5_send_100 rfl (lv_at hl 2 rfl) ?_
                refine lv_iconst (v := nI 0) hx hb dX5_send_101 ci_0 ?_
                refine z_ialdN hx hb hK hP 0 0 rfl rfl (by omega) (by omega) dX5_send_102 ?_
                refine z_top (y := nI (Z 0 + (r + 1))) (congrArg nI ((updN_n _ (by decide)).trans (updN_s _ _ _))) ?_
                refine z_iadd hx hb dX5_send_103 ?_
                refine lv_iload_n hx hb dX5_send_104 rfl (lv_at hl 5 rfl) ?_
                refine z_roS (w0 := []) (As := [.int (nI (sg + (Z 0 + (r + 1)))), .int (nI q2)]) (rest := [.int (nI (Z 2)), .int (nI 2), .ref z]) ⟨hx, hb, hml, hown, hts⟩ (c_X5_isGarbled l D cI (sg + (Z 0 + (r + 1))) q2 (by omega) hq2) (va_cwS 2 hts gX5_send_X5_isGarbled rfl rfl rfl hd_X5_isGarbled ⟨Nat.le_of_ble_eq_true rfl, Nat.le_of_ble_eq_true rfl⟩) ⟨hK, hE⟩ (va_P_nil _ _ _) rfl hl.1 rfl (Nat.le_of_ble_eq_true rfl) dX5_send_105 (Nat.le_of_ble_eq_true rfl) (Nat.le_of_ble_eq_true rfl) ?_
                refine z_if_eqP (tgt := 115) hx hb dX5_send_108 (by decide) (fun c_108 => ?_) (fun c_108 => ?_)
                · refine lv_iconst (v := nI 0) hx hb dX5_send_115 ci_0 ?_
                  refine z_iadd hx hb dX5_send_116 ?_
                  refine z_iastN hx hb hK hP hD rfl hS 0 0 rfl rfl (by omega) (by omega) dX5_send_117 (fun H locs hP hS => ?_)
                  have hP : va_P D vwCl [(z, .inl (cI, 4, .inl (nA (updN (updN (updN (updN Z 3 ((Z 3) + 1)) 0 ((Z 0) + (r + 1))) 1 ((Z 1) + ((r + 1) - 1))) 2 ((Z 2) + 0)))))] H := hP
                  refine lv_iinc (v := nI (i + 1)) (lv' := [(4, .int (nI (i + 1))), (5, .int (nI (r + 1))), (3, .ref z), (0, .ref y0), (1, .int (nI g)), (2, .int (nI q2))]) hx hb dX5_send_118 hl (k := 1) rfl (z_inc1 _) (by decide) rfl (fun ls hl => ?_)
                  refine lv_goto (tgt := 7) hx hb dX5_send_121 (by decide) ?_
                  exact ih_7 (i + 1) (updN (updN (updN (updN Z 3 ((Z 3) + 1)) 0 ((Z 0) + (r + 1))) 1 ((Z 1) + ((r + 1) - 1))) 2 ((Z 2) + 0)) (by omega) (send_step hr3 hse hr hall hZ (by first | exact Or.inl c_31 | exact Or.inr (by omega)) (by first | exact Or.inl ⟨c_64, rfl⟩ | exact Or.inr ⟨c_64, rfl⟩) (by first | exact Or.inl ⟨c_108, rfl⟩ | exact Or.inr ⟨c_108, rfl⟩)) (by omega) H locs ls hP hS (lv_sub hl [0, 2, 3, 4, 5] rfl)
                · refine lv_iconst (v := nI 1) hx hb dX5_send_111 ci_1 ?_
                  refine lv_goto (tgt := 116) hx hb dX5_send_112 (by decide) ?_
                  refine z_iadd hx hb dX5_send_116 ?_
                  refine z_iastN hx hb hK hP hD rfl hS 0 0 rfl rfl (by omega) (by omega) dX5_send_117 (fun H locs hP hS => ?_)
                  have hP : va_P D vwCl [(z, .inl (cI, 4, .inl (nA (updN (updN (updN (updN Z 3 ((Z 3) + 1)) 0 ((Z 0) + (r + 1))) 1 ((Z 1) + ((r + 1) - 1))) 2 ((Z 2) + 1)))))] H := hP
                  refine lv_iinc (v := nI (i + 1)) (lv' := [(4, .int (nI (i + 1))), (5, .int (nI (r + 1))), (3, .ref z), (0, .ref y0), (1, .int (nI g)), (2, .int (nI q2))]) hx hb dX5_send_118 hl (k := 1) rfl (z_inc1 _) (by decide) rfl (fun ls hl => ?_)
                  refine lv_goto (tgt := 7) hx hb dX5_send_121 (by decide) ?_
                  exact ih_7 (i + 1) (updN (updN (updN (updN Z 3 ((Z 3) + 1)) 0 ((Z 0) + (r + 1))) 1 ((Z 1) + ((r + 1) - 1))) 2 ((Z 2) + 1)) (by omega) (send_step hr3 hse hr hall hZ (by first | exact Or.inl c_31 | exact Or.inr (by omega)) (by first | exact Or.inl ⟨c_64, rfl⟩ | exact Or.inr ⟨c_64, rfl⟩) (by first | exact Or.inl ⟨c_108, rfl⟩ | exact Or.inr ⟨c_108, rfl⟩)) (by omega) H locs ls hP hS (lv_sub hl [0, 2, 3, 4, 5] rfl)
            · refine lv_iload hx hb dX5_send_34 (lv_at hl 0 rfl) ?_
              refine lv_iconst (v := nI 4) hx hb dX5_send_36 ci_4 ?_
              refine z_icmp_ge (tgt := 46) hx hb dX5_send_37 (by decide) (by omega) (by omega) (fun c_37 => ?_) (fun c_37 => ?_)
              · have hr := rpt_of (q := q2) (s := seN q2 sg i) hr3 hall (Or.inl (by omega))
                refine lv_aload_n hx hb dX5_send_46 rfl (lv_at hl 2 rfl) ?_
                refine lv_iconst (v := nI 3) hx hb dX5_send_47 ci_3 ?_
                refine lv_dup2_11 hx hb dX5_send_48 rfl rfl ?_
                refine z_ialdN hx hb hK hP 0 0 rfl rfl (by omega) (by omega) dX5_send_49 ?_
                refine lv_aload_n hx hb dX5_send_50 rfl (lv_at hl 3 rfl) ?_
                refine va_get (v := .int (nI sg)) hx hb hts hi_5 hown hK (fr_old hP0 hS hA2) 0 rfl rfl 3 (by decide) f_34 (fun _ h => h) rfl dX5_send_51 ?_
                refine lv_aload_n hx hb dX5_send_54 rfl (lv_at hl 2 rfl) ?_
                refine lv_iconst (v := nI 0) hx hb dX5_send_55 ci_0 ?_
                refine z_ialdN hx hb hK hP 0 0 rfl rfl (by omega) (by omega) dX5_send_56 ?_
                refine z_iadd hx hb dX5_send_57 ?_
                refine lv_iconst (v := nI 1) hx hb dX5_send_58 ci_1 ?_
                refine z_iadd hx hb dX5_send_59 ?_
                refine lv_iload_n hx hb dX5_send_60 rfl (lv_at hl 5 rfl) ?_
                refine z_roS (w0 := []) (As := [.int (nI ((sg + (Z 0)) + 1)), .int (nI q2)]) (rest := [.int (nI (Z 3)), .int (nI 3), .ref z]) ⟨hx, hb, hml, hown, hts⟩ (c_X5_isGarbled l D cI ((sg + (Z 0)) + 1) q2 (by omega) hq2) (va_cwS 2 hts gX5_send_X5_isGarbled rfl rfl rfl hd_X5_isGarbled ⟨Nat.le_of_ble_eq_true rfl, Nat.le_of_ble_eq_true rfl⟩) ⟨hK, hE⟩ (va_P_nil _ _ _) rfl hl.1 rfl (Nat.le_of_ble_eq_true rfl) dX5_send_61 (Nat.le_of_ble_eq_true rfl) (Nat.le_of_ble_eq_true rfl) ?_
                refine z_if_eqP (tgt := 71) hx hb dX5_send_64 (by decide) (fun c_64 => ?_) (fun c_64 => ?_)
                · refine lv_iconst (v := nI 0) hx hb dX5_send_71 ci_0 ?_
                  refine z_iadd hx hb dX5_send_72 ?_
                  refine z_iastN hx hb hK hP hD rfl hS 0 0 rfl rfl (by omega) (by omega) dX5_send_73 (fun H locs hP hS => ?_)
                  have hP : va_P D vwCl [(z, .inl (cI, 4, .inl (nA (updN Z 3 ((Z 3) + 0)))))] H := hP
                  refine lv_aload_n hx hb dX5_send_74 rfl (lv_at hl 2 rfl) ?_
                  refine lv_iconst (v := nI 0) hx hb dX5_send_75 ci_0 ?_
                  refine lv_dup2_11 hx hb dX5_send_76 rfl rfl ?_
                  refine z_ialdN hx hb hK hP 0 0 rfl rfl (by omega) (by omega) dX5_send_77 ?_
                  refine z_top (y := nI (Z 0)) (congrArg nI (updN_n _ (by decide))) ?_
                  refine lv_iload hx hb dX5_send_78 (lv_at hl 0 rfl) ?_
                  refine z_iadd hx hb dX5_send_80 ?_
                  refine z_iastN hx hb hK hP hD rfl hS 0 0 rfl rfl (by omega) (by omega) dX5_send_81 (fun H locs hP hS => ?_)
                  have hP : va_P D vwCl [(z, .inl (cI, 4, .inl (nA (updN (updN Z 3 ((Z 3) + 0)) 0 ((Z 0) + (r + 1))))))] H := hP
                  refine lv_aload_n hx hb dX5_send_82 rfl (lv_at hl 2 rfl) ?_
                  refine lv_iconst (v := nI 1) hx hb dX5_send_83 ci_1 ?_
                  refine lv_dup2_11 hx hb dX5_send_84 rfl rfl ?_
                  refine z_ialdN hx hb hK hP 0 0 rfl rfl (by omega) (by omega) dX5_send_85 ?_
                  refine z_top (y := nI (Z 1)) (congrArg nI ((updN_n _ (by decide)).trans (updN_n _ (by decide)))) ?_
                  refine lv_iload hx hb dX5_send_86 (lv_at hl 0 rfl) ?_
                  refine lv_iconst (v := nI 1) hx hb dX5_send_88 ci_1 ?_
                  refine z_isub hx hb dX5_send_89 (by omega) ?_
                  refine z_iadd hx hb dX5_send_90 ?_
                  refine z_iastN hx hb hK hP hD rfl hS 0 0 rfl rfl (by omega) (by omega) dX5_send_91 (fun H locs hP hS => ?_)
                  have hP : va_P D vwCl [(z, .inl (cI, 4, .inl (nA (updN (updN (updN Z 3 ((Z 3) + 0)) 0 ((Z 0) + (r + 1))) 1 ((Z 1) + ((r + 1) - 1))))))] H := hP
                  refine lv_aload_n hx hb dX5_send_92 rfl (lv_at hl 2 rfl) ?_
                  refine lv_iconst (v := nI 2) hx hb dX5_send_93 ci_2 ?_
                  refine lv_dup2_11 hx hb dX5_send_94 rfl rfl ?_
                  refine z_ialdN hx hb hK hP 0 0 rfl rfl (by omega) (by omega) dX5_send_95 ?_
                  refine z_top (y := nI (Z 2)) (congrArg nI ((updN_n _ (by decide)).trans ((updN_n _ (by decide)).trans (updN_n _ (by decide))))) ?_
                  refine lv_aload_n hx hb dX5_send_96 rfl (lv_at hl 3 rfl) ?_
                  refine va_get (v := .int (nI sg)) hx hb hts hi_5 hown hK (fr_old hP0 hS hA2) 0 rfl rfl 3 (by decide) f_34 (fun _ h => h) rfl dX5_send_97 ?_
                  refine lv_aload_n hx hb dX5_send_100 rfl (lv_at hl 2 rfl) ?_
                  refine lv_iconst (v := nI 0) hx hb dX5_send_101 ci_0 ?_
                  refine z_ialdN hx hb hK hP 0 0 rfl rfl (by omega) (by omega) dX5_send_102 ?_
                  refine z_top (y := nI (Z 0 + (r + 1))) (congrArg nI ((updN_n _ (by decide)).trans (updN_s _ _ _))) ?_
                  refine z_iadd hx hb dX5_send_103 ?_
                  refine lv_iload_n hx hb dX5_send_104 rfl (lv_at hl 5 rfl) ?_
                  refine z_roS (w0 := []) (As := [.int (nI (sg + (Z 0 + (r + 1)))), .int (nI q2)]) (rest := [.int (nI (Z 2)), .int (nI 2), .ref z]) ⟨hx, hb, hml, hown, hts⟩ (c_X5_isGarbled l D cI (sg + (Z 0 + (r + 1))) q2 (by omega) hq2) (va_cwS 2 hts gX5_send_X5_isGarbled rfl rfl rfl hd_X5_isGarbled ⟨Nat.le_of_ble_eq_true rfl, Nat.le_of_ble_eq_true rfl⟩) ⟨hK, hE⟩ (va_P_nil _ _ _) rfl hl.1 rfl (Nat.le_of_ble_eq_true rfl) dX5_send_105 (Nat.le_of_ble_eq_true rfl) (Nat.le_of_ble_eq_true rfl) ?_
                  refine z_if_eqP (tgt := 115) hx hb dX5_send_108 (by decide) (fun c_108 => ?_) (fun c_108 => ?_)
                  · refine lv_iconst (v := nI 0) hx hb dX5_send_115 ci_0 ?_
                    refine z_iadd hx hb dX5_send_116 ?_
                    refine z_iastN hx hb hK hP hD rfl hS 0 0 rfl rfl (by omega) (by omega) dX5_send_117 (fun H locs hP hS => ?_)
                    have hP : va_P D vwCl [(z, .inl (cI, 4, .inl (nA (updN (updN (updN (updN Z 3 ((Z 3) + 0)) 0 ((Z 0) + (r + 1))) 1 ((Z 1) + ((r + 1) - 1))) 2 ((Z 2) + 0)))))] H := hP
                    refine lv_iinc (v := nI (i + 1)) (lv' := [(4, .int (nI (i + 1))), (5, .int (nI (r + 1))), (3, .ref z), (0, .ref y0), (1, .int (nI g)), (2, .int (nI q2))]) hx hb dX5_send_118 hl (k := 1) rfl (z_inc1 _) (by decide) rfl (fun ls hl => ?_)
                    refine lv_goto (tgt := 7) hx hb dX5_send_121 (by decide) ?_
                    exact ih_7 (i + 1) (updN (updN (updN (updN Z 3 ((Z 3) + 0)) 0 ((Z 0) + (r + 1))) 1 ((Z 1) + ((r + 1) - 1))) 2 ((Z 2) + 0)) (by omega) (send_step hr3 hse hr hall hZ (by first | exact Or.inl c_31 | exact Or.inr (by omega)) (by first | exact Or.inl ⟨c_64, rfl⟩ | exact Or.inr ⟨c_64, rfl⟩) (by first | exact Or.inl ⟨c_108, rfl⟩ | exact Or.inr ⟨c_108, rfl⟩)) (by omega) H locs ls hP hS (lv_sub hl [0, 2, 3, 4, 5] rfl)
                  · refine lv_iconst (v := nI 1) hx hb dX5_send_111 ci_1 ?_
                    refine lv_goto (tgt := 116) hx hb dX5_send_112 (by decide) ?_
                    refine z_iadd hx hb dX5_send_116 ?_
                    refine z_iastN hx hb hK hP hD rfl hS 0 0 rfl rfl (by omega) (by omega) dX5_send_117 (fun H locs hP hS => ?_)
                    have hP : va_P D vwCl [(z, .inl (cI, 4, .inl (nA (updN (updN (updN (updN Z 3 ((Z 3) + 0)) 0 ((Z 0) + (r + 1))) 1 ((Z 1) + ((r + 1) - 1))) 2 ((Z 2) + 1)))))] H := hP
                    refine lv_iinc (v := nI (i + 1)) (lv' := [(4, .int (nI (i + 1))), (5, .int (nI (r + 1))), (3, .ref z), (0, .ref y0), (1, .int (nI g)), (2, .int (nI q2))]) hx hb dX5_send_118 hl (k := 1) rfl (z_inc1 _) (by decide) rfl (fun ls hl => ?_)
                    refine lv_goto (tgt := 7) hx hb dX5_send_121 (by decide) ?_
                    exact ih_7 (i + 1) (updN (updN (updN (updN Z 3 ((Z 3) + 0)) 0 ((Z 0) + (r + 1))) 1 ((Z 1) + ((r + 1) - 1))) 2 ((Z 2) + 1)) (by omega) (send_step hr3 hse hr hall hZ (by first | exact Or.inl c_31 | exact Or.inr (by omega)) (by first | exact Or.inl ⟨c_64, rfl⟩ | exact Or.inr ⟨c_64, rfl⟩) (by first | exact Or.inl ⟨c_108, rfl⟩ | exact Or.inr ⟨c_108, rfl⟩)) (by omega) H locs ls hP hS (lv_sub hl [0, 2, 3, 4, 5] rfl)
                · refine lv_iconst (v := nI 1) hx hb dX5_send_67 ci_1 ?_
                  refine lv_goto (tgt := 72) hx hb dX5_send_68 (by decide) ?_
                  refine z_iadd hx hb dX5_send_72 ?_
                  refine z_iastN hx hb hK hP hD rfl hS 0 0 rfl rfl (by omega) (by omega) dX5_send_73 (fun H locs hP hS => ?_)
                  have hP : va_P D vwCl [(z, .inl (cI, 4, .inl (nA (updN Z 3 ((Z 3) + 1)))))] H := hP
                  refine lv_aload_n hx hb dX5_send_74 rfl (lv_at hl 2 rfl) ?_
                  refine lv_iconst (v := nI 0) hx hb dX5_send_75 ci_0 ?_
                  refine lv_dup2_11 hx hb dX5_send_76 rfl rfl ?_
                  refine z_ialdN hx hb hK hP 0 0 rfl rfl (by omega) (by omega) dX5_send_77 ?_
                  refine z_top (y := nI (Z 0)) (congrArg nI (updN_n _ (by decide))) ?_
                  refine lv_iload hx hb dX5_send_78 (lv_at hl 0 rfl) ?_
                  refine z_iadd hx hb dX5_send_80 ?_
                  refine z_iastN hx hb hK hP hD rfl hS 0 0 rfl rfl (by omega) (by omega) dX5_send_81 (fun H locs hP hS => ?_)
                  have hP : va_P D vwCl [(z, .inl (cI, 4, .inl (nA (updN (updN Z 3 ((Z 3) + 1)) 0 ((Z 0) + (r + 1))))))] H := hP
                  refine lv_aload_n hx hb dX5_send_82 rfl (lv_at hl 2 rfl) ?_
                  refine lv_iconst (v := nI 1) hx hb dX5_send_83 ci_1 ?_
                  refine lv_dup2_11 hx hb dX5_send_84 rfl rfl ?_
                  refine z_ialdN hx hb hK hP 0 0 rfl rfl (by omega) (by omega) dX5_send_85 ?_
                  refine z_top (y := nI (Z 1)) (congrArg nI ((updN_n _ (by decide)).trans (updN_n _ (by decide)))) ?_
                  refine lv_iload hx hb dX5_send_86 (lv_at hl 0 rfl) ?_
                  refine lv_iconst (v := nI 1) hx hb dX5_send_88 ci_1 ?_
                  refine z_isub hx hb dX5_send_89 (by omega) ?_
                  refine z_iadd hx hb dX5_send_90 ?_
                  refine z_iastN hx hb hK hP hD rfl hS 0 0 rfl rfl (by omega) (by omega) dX5_send_91 (fun H locs hP hS => ?_)
                  have hP : va_P D vwCl [(z, .inl (cI, 4, .inl (nA (updN (updN (updN Z 3 ((Z 3) + 1)) 0 ((Z 0) + (r + 1))) 1 ((Z 1) + ((r + 1) - 1))))))] H := hP
                  refine lv_aload_n hx hb dX5_send_92 rfl (lv_at hl 2 rfl) ?_
                  refine lv_iconst (v := nI 2) hx hb dX5_send_93 ci_2 ?_
                  refine lv_dup2_11 hx hb dX5_send_94 rfl rfl ?_
                  refine z_ialdN hx hb hK hP 0 0 rfl rfl (by omega) (by omega) dX5_send_95 ?_
                  refine z_top (y := nI (Z 2)) (congrArg nI ((updN_n _ (by decide)).trans ((updN_n _ (by decide)).trans (updN_n _ (by decide))))) ?_
                  refine lv_aload_n hx hb dX5_send_96 rfl (lv_at hl 3 rfl) ?_
                  refine va_get (v := .int (nI sg)) hx hb hts hi_5 hown hK (fr_old hP0 hS hA2) 0 rfl rfl 3 (by decide) f_34 (fun _ h => h) rfl dX5_send_97 ?_
                  refine lv_aload_n hx hb dX5_send_100 rfl (lv_at hl 2 rfl) ?_
                  refine lv_iconst (v := nI 0) hx hb dX5_send_101 ci_0 ?_
                  refine z_ialdN hx hb hK hP 0 0 rfl rfl (by omega) (by omega) dX5_send_102 ?_
                  refine z_top (y := nI (Z 0 + (r + 1))) (congrArg nI ((updN_n _ (by decide)).trans (updN_s _ _ _))) ?_
                  refine z_iadd hx hb dX5_send_103 ?_
                  refine lv_iload_n hx hb dX5_send_104 rfl (lv_at hl 5 rfl) ?_
                  refine z_roS (w0 := []) (As := [.int (nI (sg + (Z 0 + (r + 1)))), .int (nI q2)]) (rest := [.int (nI (Z 2)), .int (nI 2), .ref z]) ⟨hx, hb, hml, hown, hts⟩ (c_X5_isGarbled l D cI (sg + (Z 0 + (r + 1))) q2 (by omega) hq2) (va_cwS 2 hts gX5_send_X5_isGarbled rfl rfl rfl hd_X5_isGarbled ⟨Nat.le_of_ble_eq_true rfl, Nat.le_of_ble_eq_true rfl⟩) ⟨hK, hE⟩ (va_P_nil _ _ _) rfl hl.1 rfl (Nat.le_of_ble_eq_true rfl) dX5_send_105 (Nat.le_of_ble_eq_true rfl) (Nat.le_of_ble_eq_true rfl) ?_
                  refine z_if_eqP (tgt := 115) hx hb dX5_send_108 (by decide) (fun c_108 => ?_) (fun c_108 => ?_)
                  · refine lv_iconst (v := nI 0) hx hb dX5_send_115 ci_0 ?_
                    refine z_iadd hx hb dX5_send_116 ?_
                    refine z_iastN hx hb hK hP hD rfl hS 0 0 rfl rfl (by omega) (by omega) dX5_send_117 (fun H locs hP hS => ?_)
                    have hP : va_P D vwCl [(z, .inl (cI, 4, .inl (nA (updN (updN (updN (updN Z 3 ((Z 3) + 1)) 0 ((Z 0) + (r + 1))) 1 ((Z 1) + ((r + 1) - 1))) 2 ((Z 2) + 0)))))] H := hP
                    refine lv_iinc (v := nI (i + 1)) (lv' := [(4, .int (nI (i + 1))), (5, .int (nI (r + 1))), (3, .ref z), (0, .ref y0), (1, .int (nI g)), (2, .int (nI q2))]) hx hb dX5_send_118 hl (k := 1) rfl (z_inc1 _) (by decide) rfl (fun ls hl => ?_)
                    refine lv_goto (tgt := 7) hx hb dX5_send_121 (by decide) ?_
                    exact ih_7 (i + 1) (updN (updN (updN (updN Z 3 ((Z 3) + 1)) 0 ((Z 0) + (r + 1))) 1 ((Z 1) + ((r + 1) - 1))) 2 ((Z 2) + 0)) (by omega) (send_step hr3 hse hr hall hZ (by first | exact Or.inl c_31 | exact Or.inr (by omega)) (by first | exact Or.inl ⟨c_64, rfl⟩ | exact Or.inr ⟨c_64, rfl⟩) (by first | exact Or.inl ⟨c_108, rfl⟩ | exact Or.inr ⟨c_108, rfl⟩)) (by omega) H locs ls hP hS (lv_sub hl [0, 2, 3, 4, 5] rfl)
                  · refine lv_iconst (v := nI 1) hx hb dX5_send_111 ci_1 ?_
                    refine lv_goto (tgt := 116) hx hb dX5_send_112 (by decide) ?_
                    refine z_iadd hx hb dX5_send_116 ?_
                    refine z_iastN hx hb hK hP hD rfl hS 0 0 rfl rfl (by omega) (by omega) dX5_send_117 (fun H locs hP hS => ?_)
                    have hP : va_P D vwCl [(z, .inl (cI, 4, .inl (nA (updN (updN (updN (updN Z 3 ((Z 3) + 1)) 0 ((Z 0) + (r + 1))) 1 ((Z 1) + ((r + 1) - 1))) 2 ((Z 2) + 1)))))] H := hP
                    refine lv_iinc (v := nI (i + 1)) (lv' := [(4, .int (nI (i + 1))), (5, .int (nI (r + 1))), (3, .ref z), (0, .ref y0), (1, .int (nI g)), (2, .int (nI q2))]) hx hb dX5_send_118 hl (k := 1) rfl (z_inc1 _) (by decide) rfl (fun ls hl => ?_)
                    refine lv_goto (tgt := 7) hx hb dX5_send_121 (by decide) ?_
                    exact ih_7 (i + 1) (updN (updN (updN (updN Z 3 ((Z 3) + 1)) 0 ((Z 0) + (r + 1))) 1 ((Z 1) + ((r + 1) - 1))) 2 ((Z 2) + 1)) (by omega) (send_step hr3 hse hr hall hZ (by first | exact Or.inl c_31 | exact Or.inr (by omega)) (by first | exact Or.inl ⟨c_64, rfl⟩ | exact Or.inr ⟨c_64, rfl⟩) (by first | exact Or.inl ⟨c_108, rfl⟩ | exact Or.inr ⟨c_108, rfl⟩)) (by omega) H locs ls hP hS (lv_sub hl [0, 2, 3, 4, 5] rfl)
              · refine lv_iinc (v := nI (r + 1 + 1)) (lv' := [(5, .int (nI (r + 1 + 1))), (4, .int (nI i)), (3, .ref z), (0, .ref y0), (1, .int (nI g)), (2, .int (nI q2))]) hx hb dX5_send_40 hl (k := 0) rfl (z_inc1 _) (by decide) rfl (fun ls hl => ?_)
                refine lv_goto (tgt := 16) hx hb dX5_send_43 (by decide) ?_
                exact ih_16 (r + 1) (by omega) (lt_s hall (by rw [hse]; exact (show sg + Z 0 + (r + 1) = sg + Z 0 + 1 + r by omega) ▸ c_31)) (by omega) H locs ls hP hS (lv_sub hl [0, 1, 2, 3, 4, 5] rfl)
        exact lp_16 ((3 - 0) + 1) 0 (Nat.zero_le _) (fun _ h => absurd h (Nat.not_lt_zero _)) (Nat.lt_succ_self _) H locs ls hP hS hl
  exact lp_7 ((g - 0) + 1) 0 (fun _ => 0) (Nat.zero_le _) (⟨rfl, rfl, rfl, rfl⟩) (Nat.lt_succ_self _) H locs ls hP hS hl
