theorem hd_L_below : yL_below.cls ≠ "java/lang/invoke/MethodHandle" ∧ yL_below.cls ≠ "java/lang/invoke/VarHandle" ∧ (parseMethodDescriptor yL_below.desc).map (fun d => d.parameters.length) = some 2 := by decide +kernel
theorem hd_L_add : yL_add.cls ≠ "java/lang/invoke/MethodHandle" ∧ yL_add.cls ≠ "java/lang/invoke/VarHandle" ∧ (parseMethodDescriptor yL_add.desc).map (fun d => d.parameters.length) = some 2 := by decide +kernel
abbrev rm_L_below : Room := { frames := 0, cells := 0, slots := 0, locals := 0 }
abbrev rm_L_add : Room := { frames := 7, cells := 0, slots := 0, locals := 162 }
set_option maxHeartbeats 4000000 in
set_option maxRecDepth 100000 in
theorem c_L_below (l : Launch) (D : va_G) (cI : ClassId) (v : Int32) (m : Nat) (hm : 0 < m ∧ m < 2147483648) : RO l yL_below wsL_below rm_L_below D cI [] [.int v, .int (nI m)] (.int (nI (blw v m))) := by
  refine ro_of (C := RL) (cc := cL_below) (maxL := 2) (ret := (some .int)) rfl (by decide) rfl (Nat.le_of_ble_eq_true rfl) ?_
  intro pg ev sv mi ag bl mt cd ls Q hQ hx hb hr hlocks hml hts hown hK hE hP hl
  have hP : va_P D vwCl [] sv.heap := hP
  have hl : lv_has ls 2 [(0, .int v), (1, .int (nI m))] := hl
  refine lv_iload_n hx hb dL_below_0 rfl (lv_at hl 0 rfl) ?_
  refine lv_ldc hx hb hown (hts (.constant RL 7 (2147483647)) (by decide +kernel)) dL_below_1 ?_
  refine lv_iand hx hb dL_below_3 ?_
  refine z_top (y := nI (v.toBitVec.toNat % 2 ^ 31)) (pk_and v 31 (by decide)) ?_
  refine lv_iload_n hx hb dL_below_4 rfl (lv_at hl 1 rfl) ?_
  refine z_irem hx hb dL_below_5 (by omega) (by omega) (by omega) ?_
  exact ro_iret hQ hx hb hr hlocks rfl dL_below_6
set_option maxHeartbeats 4000000 in
set_option maxRecDepth 100000 in
theorem c_L_add (l : Launch) (D : va_G) (cI : ClassId) (h0 : Nat) (b0 : Nat) (m0 : Nat) (p0 : Nat) (s0 : Nat) (q0 : Nat) (q : Nat) (sg : Nat) (rp : Int32) (lo : Int32) (ea : Int32) (p1 : Nat) (p2 : Nat) (p3 : Nat) (p4 : Nat) (f : Nat → Nat) (lf : Nat → Nat) (C : Nat → Int32) (ps : Nat → Nat) (cnt : Nat) (m1 : Nat) (t : Nat → Nat) (n : Nat) (b1 : Nat) (b2 : Nat) (T : Nat → Int32) (Lf : Nat → Nat) (k : Nat) (rr : Nat) (m2 : Nat) (g : Nat → Nat) (hn : n ≤ 24) (hk : k ≤ 8) (hL : ∀ c, c < k → 2 ≤ Lf c ∧ Lf c ≤ 4) (hBK : BK T Lf k) (hk8 : k < 8) (hm2 : 2 ≤ m2 ∧ m2 ≤ 4) (hg : ∀ p, p < m2 → g p < 10) (hdup : ∀ c, c < k → ¬ (Lf c = m2 ∧ ∀ p, p < m2 → T (c * 4 + p) = nI (g p))) : MU l yL_add wsL_add rm_L_add D cI [(h0, .inr (4, [.ref b0, .ref m0, .ref p0, .ref s0, .ref q0, .int (nI q), .int (nI sg), .int rp, .int lo, .int ea])), (p0, .inr (2, [.ref p1, .ref p2, .ref p3, .ref p4, .int (nI cnt)])), (p1, .inl (cI, 25, .inl (nA f))), (p2, .inl (cI, 24, .inl (nA lf))), (p3, .inl (cI, 24, .inl C)), (p4, .inl (cI, 24, .inl (nA ps))), (m0, .inr (1, [.ref m1, .int (nI n)])), (m1, .inl (cI, 24, .inl (nA t))), (b0, .inr (0, [.ref b1, .ref b2, .int (nI k)])), (b1, .inl (cI, 32, .inl T)), (b2, .inl (cI, 8, .inl (nA Lf))), (rr, .inl (cI, m2, .inl (nA g)))] [.ref h0, .ref rr] (fun (v9 : Option Value) (u9 : (Nat → Nat) × (Nat → Nat) × (Nat → Int32) × (Nat → Nat) × Nat) => v9 = some (.int (nI k)) ∧ (PartC t n (rT T k g m2) (updN Lf k m2) (k + 1) (-1) 0 0 u9.1 u9.2.1 u9.2.2.1 u9.2.2.2.1 u9.2.2.2.2)) (fun (u9 : (Nat → Nat) × (Nat → Nat) × (Nat → Int32) × (Nat → Nat) × Nat) => [(h0, .inr (4, [.ref b0, .ref m0, .ref p0, .ref s0, .ref q0, .int (nI q), .int (nI sg), .int rp, .int lo, .int ea])), (p0, .inr (2, [.ref p1, .ref p2, .ref p3, .ref p4, .int (nI u9.2.2.2.2)])), (p1, .inl (cI, 25, .inl (nA u9.1))), (p2, .inl (cI, 24, .inl (nA u9.2.1))), (p3, .inl (cI, 24, .inl u9.2.2.1)), (p4, .inl (cI, 24, .inl (nA u9.2.2.2.1))), (m0, .inr (1, [.ref m1, .int (nI n)])), (m1, .inl (cI, 24, .inl (nA t))), (b0, .inr (0, [.ref b1, .ref b2, .int (nI (k + 1))])), (b1, .inl (cI, 32, .inl (rT T k g m2))), (b2, .inl (cI, 8, .inl (nA (updN Lf k m2)))), (rr, .inl (cI, m2, .inl (nA g)))]) := by
  refine mu_of (C := RL) (cc := cL_add) (maxL := 2) (ret := (some .int)) rfl (by decide) rfl (Nat.le_of_ble_eq_true rfl) ?_
  intro pg ev sv mi ag bl mt cd ls Q A hA hQ hx hb hr hlocks hml hts hown hK hE hD H locs hP hS hl
  have hD : zDD A [h0, p0, p1, p2, p3, p4, m0, m1, b0, b1, b2, rr] := hD
  have hl : lv_has ls 2 [(0, .ref h0), (1, .ref rr)] := hl
  refine lv_aload_n hx hb dL_add_0 rfl (lv_at hl 0 rfl) ?_
  refine lv_aload_n hx hb dL_add_1 rfl (lv_at hl 1 rfl) ?_
  refine lv_iconst (v := nI 0) hx hb dL_add_2 ci_0 ?_
  refine z_ialdN hx hb hK hP 11 0 rfl rfl (by omega) (by omega) dL_add_3 ?_
  refine lv_aload_n hx hb dL_add_4 rfl (lv_at hl 1 rfl) ?_
  refine lv_iconst (v := nI 1) hx hb dL_add_5 ci_1 ?_
  refine z_ialdN hx hb hK hP 11 0 rfl rfl (by omega) (by omega) dL_add_6 ?_
  refine lv_aload_n hx hb dL_add_7 rfl (lv_at hl 1 rfl) ?_
  refine va_alen (v := nI m2) hx hb hK hP 11 0 rfl rfl rfl dL_add_8 ?_
  refine lv_iconst (v := nI 2) hx hb dL_add_9 ci_2 ?_
  refine z_icmp_le (tgt := 19) hx hb dL_add_10 (by decide) (by omega) (by omega) (fun c_10 => ?_) (fun c_10 => ?_)
  · refine lv_iconst (v := -1) hx hb dL_add_19 ci_m1 ?_
    refine lv_aload_n hx hb dL_add_20 rfl (lv_at hl 1 rfl) ?_
    refine va_alen (v := nI m2) hx hb hK hP 11 0 rfl rfl rfl dL_add_21 ?_
    refine lv_iconst (v := nI 3) hx hb dL_add_22 ci_3 ?_
    refine z_icmp_le (tgt := 32) hx hb dL_add_23 (by decide) (by omega) (by omega) (fun c_23 => ?_) (fun c_23 => ?_)
    · refine lv_iconst (v := -1) hx hb dL_add_32 ci_m1 ?_
      refine z_muV (As := [.int (nI (g 0)), .int (nI (g 1)), .int (-1), .int (-1)]) (rest := []) ⟨hx, hb, hml, hown, hts⟩ (c_X4_addCode l D cI h0 b0 m0 p0 s0 q0 q sg rp lo ea p1 p2 p3 p4 f lf C ps cnt m1 t n b1 b2 T Lf k (nI (g 0)) (nI (g 1)) (-1) (-1) (by first | assumption | omega) (by first | assumption | omega) (by first | assumption | omega) (by first | exact (by have h9 := add_nb hm2 hg; rw [← zx_f (g := g) (m := m2) (p := 2) (by omega), ← zx_f (g := g) (m := m2) (p := 3) (by omega)] at h9; exact h9) | exact (by have h9 := add_nb hm2 hg; rw [← zx_t (g := g) (m := m2) (p := 2) (by omega), ← zx_f (g := g) (m := m2) (p := 3) (by omega)] at h9; exact h9) | exact (by have h9 := add_nb hm2 hg; rw [← zx_t (g := g) (m := m2) (p := 2) (by omega), ← zx_t (g := g) (m := m2) (p := 3) (by omega)] at h9; exact h9)) (by first | exact (by have h9 := add_nd hBK hL hm2 hg hk8 hdup; rw [← zx_f (g := g) (m := m2) (p := 2) (by omega), ← zx_f (g := g) (m := m2) (p := 3) (by omega)] at h9; exact h9) | exact (by have h9 := add_nd hBK hL hm2 hg hk8 hdup; rw [← zx_t (g := g) (m := m2) (p := 2) (by omega), ← zx_f (g := g) (m := m2) (p := 3) (by omega)] at h9; exact h9) | exact (by have h9 := add_nd hBK hL hm2 hg hk8 hdup; rw [← zx_t (g := g) (m := m2) (p := 2) (by omega), ← zx_t (g := g) (m := m2) (p := 3) (by omega)] at h9; exact h9))) (cwV 4 hts gL_add_X4_addCode rfl rfl rfl hd_X4_addCode ⟨Nat.le_of_ble_eq_true rfl, Nat.le_of_ble_eq_true rfl⟩) ⟨hK, hE⟩ hP hD rfl hS [0, 1, 2, 3, 4, 5, 6, 7, 8, 9, 10] (by decide) rfl (fun _ => rfl) (va_recv hK hP (ci := 4) (q0 := 0) rfl rfl) rfl hl.1 rfl (Nat.le_of_ble_eq_true rfl) dL_add_33 (Nat.zero_le _) (Nat.zero_le _) (fun v9 u9 H locs hp hP hS => ?_)
      obtain ⟨f2_33, lf2_33, C2_33, ps2_33, cnt2_33⟩ := u9
      obtain ⟨rfl, hpart_33⟩ := hp
      try dsimp only at hpart_33
      have hP : va_P D vwCl [(h0, .inr (4, [.ref b0, .ref m0, .ref p0, .ref s0, .ref q0, .int (nI q), .int (nI sg), .int rp, .int lo, .int ea])), (p0, .inr (2, [.ref p1, .ref p2, .ref p3, .ref p4, .int (nI cnt2_33)])), (p1, .inl (cI, 25, .inl (nA f2_33))), (p2, .inl (cI, 24, .inl (nA lf2_33))), (p3, .inl (cI, 24, .inl C2_33)), (p4, .inl (cI, 24, .inl (nA ps2_33))), (m0, .inr (1, [.ref m1, .int (nI n)])), (m1, .inl (cI, 24, .inl (nA t))), (b0, .inr (0, [.ref b1, .ref b2, .int (nI (k + 1))])), (b1, .inl (cI, 32, .inl (acT T k (nI (g 0)) (nI (g 1)) (-1) (-1)))), (b2, .inl (cI, 8, .inl (nA (updN Lf k (clen (-1) (-1)))))), (rr, .inl (cI, m2, .inl (nA g)))] H := hP
      refine W.eq (g2 := F0 mi 36 ls [.int (nI k)]) rfl ?_
      have eT : acT T k (nI (g 0)) (nI (g 1)) (-1) (-1) = rT T k g m2 := by unfold rT; first | rw [← zx_f (g := g) (m := m2) (p := 2) (by omega), ← zx_f (g := g) (m := m2) (p := 3) (by omega)] | rw [← zx_t (g := g) (m := m2) (p := 2) (by omega), ← zx_f (g := g) (m := m2) (p := 3) (by omega)] | rw [← zx_t (g := g) (m := m2) (p := 2) (by omega), ← zx_t (g := g) (m := m2) (p := 3) (by omega)]
      have eL : clen (-1) (-1) = m2 := by
        have h9 := clen_zx hm2 hg
        first | rw [← zx_f (g := g) (m := m2) (p := 2) (by omega), ← zx_f (g := g) (m := m2) (p := 3) (by omega)] at h9 | rw [← zx_t (g := g) (m := m2) (p := 2) (by omega), ← zx_f (g := g) (m := m2) (p := 3) (by omega)] at h9 | rw [← zx_t (g := g) (m := m2) (p := 2) (by omega), ← zx_t (g := g) (m := m2) (p := 3) (by omega)] at h9
        exact h9
      rw [eT, eL] at hP hpart_33
      have hP : va_P D vwCl [(h0, .inr (4, [.ref b0, .ref m0, .ref p0, .ref s0, .ref q0, .int (nI q), .int (nI sg), .int rp, .int lo, .int ea])), (p0, .inr (2, [.ref p1, .ref p2, .ref p3, .ref p4, .int (nI cnt2_33)])), (p1, .inl (cI, 25, .inl (nA f2_33))), (p2, .inl (cI, 24, .inl (nA lf2_33))), (p3, .inl (cI, 24, .inl C2_33)), (p4, .inl (cI, 24, .inl (nA ps2_33))), (m0, .inr (1, [.ref m1, .int (nI n)])), (m1, .inl (cI, 24, .inl (nA t))), (b0, .inr (0, [.ref b1, .ref b2, .int (nI (k + 1))])), (b1, .inl (cI, 32, .inl (rT T k g m2))), (b2, .inl (cI, 8, .inl (nA (updN Lf k m2)))), (rr, .inl (cI, m2, .inl (nA g)))] H := hP
      exact mu_iret hA hQ hx hb hr hlocks (f2_33, lf2_33, C2_33, ps2_33, cnt2_33) hP hS ⟨rfl, hpart_33⟩ dL_add_36
    · exact absurd c_23 (by omega)
  · refine lv_aload_n hx hb dL_add_13 rfl (lv_at hl 1 rfl) ?_
    refine lv_iconst (v := nI 2) hx hb dL_add_14 ci_2 ?_
    refine z_ialdN hx hb hK hP 11 0 rfl rfl (by omega) (by omega) dL_add_15 ?_
    refine lv_goto (tgt := 20) hx hb dL_add_16 (by decide) ?_
    refine lv_aload_n hx hb dL_add_20 rfl (lv_at hl 1 rfl) ?_
    refine va_alen (v := nI m2) hx hb hK hP 11 0 rfl rfl rfl dL_add_21 ?_
    refine lv_iconst (v := nI 3) hx hb dL_add_22 ci_3 ?_
    refine z_icmp_le (tgt := 32) hx hb dL_add_23 (by decide) (by omega) (by omega) (fun c_23 => ?_) (fun c_23 => ?_)
    · refine lv_iconst (v := -1) hx hb dL_add_32 ci_m1 ?_
      refine z_muV (As := [.int (nI (g 0)), .int (nI (g 1)), .int (nI (g 2)), .int (-1)]) (rest := []) ⟨hx, hb, hml, hown, hts⟩ (c_X4_addCode l D cI h0 b0 m0 p0 s0 q0 q sg rp lo ea p1 p2 p3 p4 f lf C ps cnt m1 t n b1 b2 T Lf k (nI (g 0)) (nI (g 1)) (nI (g 2)) (-1) (by first | assumption | omega) (by first | assumption | omega) (by first | assumption | omega) (by first | exact (by have h9 := add_nb hm2 hg; rw [← zx_f (g := g) (m := m2) (p := 2) (by omega), ← zx_f (g := g) (m := m2) (p := 3) (by omega)] at h9; exact h9) | exact (by have h9 := add_nb hm2 hg; rw [← zx_t (g := g) (m := m2) (p := 2) (by omega), ← zx_f (g := g) (m := m2) (p := 3) (by omega)] at h9; exact h9) | exact (by have h9 := add_nb hm2 hg; rw [← zx_t (g := g) (m := m2) (p := 2) (by omega), ← zx_t (g := g) (m := m2) (p := 3) (by omega)] at h9; exact h9)) (by first | exact (by have h9 := add_nd hBK hL hm2 hg hk8 hdup; rw [← zx_f (g := g) (m := m2) (p := 2) (by omega), ← zx_f (g := g) (m := m2) (p := 3) (by omega)] at h9; exact h9) | exact (by have h9 := add_nd hBK hL hm2 hg hk8 hdup; rw [← zx_t (g := g) (m := m2) (p := 2) (by omega), ← zx_f (g := g) (m := m2) (p := 3) (by omega)] at h9; exact h9) | exact (by have h9 := add_nd hBK hL hm2 hg hk8 hdup; rw [← zx_t (g := g) (m := m2) (p := 2) (by omega), ← zx_t (g := g) (m := m2) (p := 3) (by omega)] at h9; exact h9))) (cwV 4 hts gL_add_X4_addCode rfl rfl rfl hd_X4_addCode ⟨Nat.le_of_ble_eq_true rfl, Nat.le_of_ble_eq_true rfl⟩) ⟨hK, hE⟩ hP hD rfl hS [0, 1, 2, 3, 4, 5, 6, 7, 8, 9, 10] (by decide) rfl (fun _ => rfl) (va_recv hK hP (ci := 4) (q0 := 0) rfl rfl) rfl hl.1 rfl (Nat.le_of_ble_eq_true rfl) dL_add_33 (Nat.zero_le _) (Nat.zero_le _) (fun v9 u9 H locs hp hP hS => ?_)
      obtain ⟨f2_33, lf2_33, C2_33, ps2_33, cnt2_33⟩ := u9
      obtain ⟨rfl, hpart_33⟩ := hp
      try dsimp only at hpart_33
      have hP : va_P D vwCl [(h0, .inr (4, [.ref b0, .ref m0, .ref p0, .ref s0, .ref q0, .int (nI q), .int (nI sg), .int rp, .int lo, .int ea])), (p0, .inr (2, [.ref p1, .ref p2, .ref p3, .ref p4, .int (nI cnt2_33)])), (p1, .inl (cI, 25, .inl (nA f2_33))), (p2, .inl (cI, 24, .inl (nA lf2_33))), (p3, .inl (cI, 24, .inl C2_33)), (p4, .inl (cI, 24, .inl (nA ps2_33))), (m0, .inr (1, [.ref m1, .int (nI n)])), (m1, .inl (cI, 24, .inl (nA t))), (b0, .inr (0, [.ref b1, .ref b2, .int (nI (k + 1))])), (b1, .inl (cI, 32, .inl (acT T k (nI (g 0)) (nI (g 1)) (nI (g 2)) (-1)))), (b2, .inl (cI, 8, .inl (nA (updN Lf k (clen (nI (g 2)) (-1)))))), (rr, .inl (cI, m2, .inl (nA g)))] H := hP
      refine W.eq (g2 := F0 mi 36 ls [.int (nI k)]) rfl ?_
      have eT : acT T k (nI (g 0)) (nI (g 1)) (nI (g 2)) (-1) = rT T k g m2 := by unfold rT; first | rw [← zx_f (g := g) (m := m2) (p := 2) (by omega), ← zx_f (g := g) (m := m2) (p := 3) (by omega)] | rw [← zx_t (g := g) (m := m2) (p := 2) (by omega), ← zx_f (g := g) (m := m2) (p := 3) (by omega)] | rw [← zx_t (g := g) (m := m2) (p := 2) (by omega), ← zx_t (g := g) (m := m2) (p := 3) (by omega)]
      have eL : clen (nI (g 2)) (-1) = m2 := by
        have h9 := clen_zx hm2 hg
        first | rw [← zx_f (g := g) (m := m2) (p := 2) (by omega), ← zx_f (g := g) (m := m2) (p := 3) (by omega)] at h9 | rw [← zx_t (g := g) (m := m2) (p := 2) (by omega), ← zx_f (g := g) (m := m2) (p := 3) (by omega)] at h9 | rw [← zx_t (g := g) (m := m2) (p := 2) (by omega), ← zx_t (g := g) (m := m2) (p := 3) (by omega)] at h9
        exact h9
      rw [eT, eL] at hP hpart_33
      have hP : va_P D vwCl [(h0, .inr (4, [.ref b0, .ref m0, .ref p0, .ref s0, .ref q0, .int (nI q), .int (nI sg), .int rp, .int lo, .int ea])), (p0, .inr (2, [.ref p1, .ref p2, .ref p3, .ref p4, .int (nI cnt2_33)])), (p1, .inl (cI, 25, .inl (nA f2_33))), (p2, .inl (cI, 24, .inl (nA lf2_33))), (p3, .inl (cI, 24, .inl C2_33)), (p4, .inl (cI, 24, .inl (nA ps2_33))), (m0, .inr (1, [.ref m1, .int (nI n)])), (m1, .inl (cI, 24, .inl (nA t))), (b0, .inr (0, [.ref b1, .ref b2, .int (nI (k + 1))])), (b1, .inl (cI, 32, .inl (rT T k g m2))), (b2, .inl (cI, 8, .inl (nA (updN Lf k m2)))), (rr, .inl (cI, m2, .inl (nA g)))] H := hP
      exact mu_iret hA hQ hx hb hr hlocks (f2_33, lf2_33, C2_33, ps2_33, cnt2_33) hP hS ⟨rfl, hpart_33⟩ dL_add_36
    · refine lv_aload_n hx hb dL_add_26 rfl (lv_at hl 1 rfl) ?_
      refine lv_iconst (v := nI 3) hx hb dL_add_27 ci_3 ?_
      refine z_ialdN hx hb hK hP 11 0 rfl rfl (by omega) (by omega) dL_add_28 ?_
      refine lv_goto (tgt := 33) hx hb dL_add_29 (by decide) ?_
      refine z_muV (As := [.int (nI (g 0)), .int (nI (g 1)), .int (nI (g 2)), .int (nI (g 3))]) (rest := []) ⟨hx, hb, hml, hown, hts⟩ (c_X4_addCode l D cI h0 b0 m0 p0 s0 q0 q sg rp lo ea p1 p2 p3 p4 f lf C ps cnt m1 t n b1 b2 T Lf k (nI (g 0)) (nI (g 1)) (nI (g 2)) (nI (g 3)) (by first | assumption | omega) (by first | assumption | omega) (by first | assumption | omega) (by first | exact (by have h9 := add_nb hm2 hg; rw [← zx_f (g := g) (m := m2) (p := 2) (by omega), ← zx_f (g := g) (m := m2) (p := 3) (by omega)] at h9; exact h9) | exact (by have h9 := add_nb hm2 hg; rw [← zx_t (g := g) (m := m2) (p := 2) (by omega), ← zx_f (g := g) (m := m2) (p := 3) (by omega)] at h9; exact h9) | exact (by have h9 := add_nb hm2 hg; rw [← zx_t (g := g) (m := m2) (p := 2) (by omega), ← zx_t (g := g) (m := m2) (p := 3) (by omega)] at h9; exact h9)) (by first | exact (by have h9 := add_nd hBK hL hm2 hg hk8 hdup; rw [← zx_f (g := g) (m := m2) (p := 2) (by omega), ← zx_f (g := g) (m := m2) (p := 3) (by omega)] at h9; exact h9) | exact (by have h9 := add_nd hBK hL hm2 hg hk8 hdup; rw [← zx_t (g := g) (m := m2) (p := 2) (by omega), ← zx_f (g := g) (m := m2) (p := 3) (by omega)] at h9; exact h9) | exact (by have h9 := add_nd hBK hL hm2 hg hk8 hdup; rw [← zx_t (g := g) (m := m2) (p := 2) (by omega), ← zx_t (g := g) (m := m2) (p := 3) (by omega)] at h9; exact h9))) (cwV 4 hts gL_add_X4_addCode rfl rfl rfl hd_X4_addCode ⟨Nat.le_of_ble_eq_true rfl, Nat.le_of_ble_eq_true rfl⟩) ⟨hK, hE⟩ hP hD rfl hS [0, 1, 2, 3, 4, 5, 6, 7, 8, 9, 10] (by decide) rfl (fun _ => rfl) (va_recv hK hP (ci := 4) (q0 := 0) rfl rfl) rfl hl.1 rfl (Nat.le_of_ble_eq_true rfl) dL_add_33 (Nat.zero_le _) (Nat.zero_le _) (fun v9 u9 H locs hp hP hS => ?_)
      obtain ⟨f2_33, lf2_33, C2_33, ps2_33, cnt2_33⟩ := u9
      obtain ⟨rfl, hpart_33⟩ := hp
      try dsimp only at hpart_33
      have hP : va_P D vwCl [(h0, .inr (4, [.ref b0, .ref m0, .ref p0, .ref s0, .ref q0, .int (nI q), .int (nI sg), .int rp, .int lo, .int ea])), (p0, .inr (2, [.ref p1, .ref p2, .ref p3, .ref p4, .int (nI cnt2_33)])), (p1, .inl (cI, 25, .inl (nA f2_33))), (p2, .inl (cI, 24, .inl (nA lf2_33))), (p3, .inl (cI, 24, .inl C2_33)), (p4, .inl (cI, 24, .inl (nA ps2_33))), (m0, .inr (1, [.ref m1, .int (nI n)])), (m1, .inl (cI, 24, .inl (nA t))), (b0, .inr (0, [.ref b1, .ref b2, .int (nI (k + 1))])), (b1, .inl (cI, 32, .inl (acT T k (nI (g 0)) (nI (g 1)) (nI (g 2)) (nI (g 3))))), (b2, .inl (cI, 8, .inl (nA (updN Lf k (clen (nI (g 2)) (nI (g 3))))))), (rr, .inl (cI, m2, .inl (nA g)))] H := hP
      refine W.eq (g2 := F0 mi 36 ls [.int (nI k)]) rfl ?_
      have eT : acT T k (nI (g 0)) (nI (g 1)) (nI (g 2)) (nI (g 3)) = rT T k g m2 := by unfold rT; first | rw [← zx_f (g := g) (m := m2) (p := 2) (by omega), ← zx_f (g := g) (m := m2) (p := 3) (by omega)] | rw [← zx_t (g := g) (m := m2) (p := 2) (by omega), ← zx_f (g := g) (m := m2) (p := 3) (by omega)] | rw [← zx_t (g := g) (m := m2) (p := 2) (by omega), ← zx_t (g := g) (m := m2) (p := 3) (by omega)]
      have eL : clen (nI (g 2)) (nI (g 3)) = m2 := by
        have h9 := clen_zx hm2 hg
        first | rw [← zx_f (g := g) (m := m2) (p := 2) (by omega), ← zx_f (g := g) (m := m2) (p := 3) (by omega)] at h9 | rw [← zx_t (g := g) (m := m2) (p := 2) (by omega), ← zx_f (g := g) (m := m2) (p := 3) (by omega)] at h9 | rw [← zx_t (g := g) (m := m2) (p := 2) (by omega), ← zx_t (g := g) (m := m2) (p := 3) (by omega)] at h9
        exact h9
      rw [eT, eL] at hP hpart_33
      have hP : va_P D vwCl [(h0, .inr (4, [.ref b0, .ref m0, .ref p0, .ref s0, .ref q0, .int (nI q), .int (nI sg), .int rp, .int lo, .int ea])), (p0, .inr (2, [.ref p1, .ref p2, .ref p3, .ref p4, .int (nI cnt2_33)])), (p1, .inl (cI, 25, .inl (nA f2_33))), (p2, .inl (cI, 24, .inl (nA lf2_33))), (p3, .inl (cI, 24, .inl C2_33)), (p4, .inl (cI, 24, .inl (nA ps2_33))), (m0, .inr (1, [.ref m1, .int (nI n)])), (m1, .inl (cI, 24, .inl (nA t))), (b0, .inr (0, [.ref b1, .ref b2, .int (nI (k + 1))])), (b1, .inl (cI, 32, .inl (rT T k g m2))), (b2, .inl (cI, 8, .inl (nA (updN Lf k m2)))), (rr, .inl (cI, m2, .inl (nA g)))] H := hP
      exact mu_iret hA hQ hx hb hr hlocks (f2_33, lf2_33, C2_33, ps2_33, cnt2_33) hP hS ⟨rfl, hpart_33⟩ dL_add_36
