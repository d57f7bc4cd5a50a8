theorem hd_X5_isThere : yX5_isThere.cls ≠ "java/lang/invoke/MethodHandle" ∧ yX5_isThere.cls ≠ "java/lang/invoke/VarHandle" ∧ (parseMethodDescriptor yX5_isThere.desc).map (fun d => d.parameters.length) = some 3 := by decide +kernel
theorem hd_X5_with_ : yX5_with_.cls ≠ "java/lang/invoke/MethodHandle" ∧ yX5_with_.cls ≠ "java/lang/invoke/VarHandle" ∧ (parseMethodDescriptor yX5_with_.desc).map (fun d => d.parameters.length) = some 2 := by decide +kernel
theorem hd_X5_with : yX5_with.cls ≠ "java/lang/invoke/MethodHandle" ∧ yX5_with.cls ≠ "java/lang/invoke/VarHandle" ∧ (parseMethodDescriptor yX5_with.desc).map (fun d => d.parameters.length) = some 2 := by decide +kernel
theorem hd_X5_without : yX5_without.cls ≠ "java/lang/invoke/MethodHandle" ∧ yX5_without.cls ≠ "java/lang/invoke/VarHandle" ∧ (parseMethodDescriptor yX5_without.desc).map (fun d => d.parameters.length) = some 2 := by decide +kernel
theorem hd_X5_isGarbled : yX5_isGarbled.cls ≠ "java/lang/invoke/MethodHandle" ∧ yX5_isGarbled.cls ≠ "java/lang/invoke/VarHandle" ∧ (parseMethodDescriptor yX5_isGarbled.desc).map (fun d => d.parameters.length) = some 2 := by decide +kernel
abbrev rm_X5_isThere : Room := { frames := 0, cells := 0, slots := 0, locals := 0 }
abbrev rm_X5_with_ : Room := { frames := 0, cells := 1, slots := 25, locals := 0 }
abbrev rm_X5_with : Room := { frames := 0, cells := 1, slots := 9, locals := 0 }
abbrev rm_X5_without : Room := { frames := 0, cells := 1, slots := 8, locals := 0 }
abbrev rm_X5_isGarbled : Room := { frames := 0, cells := 0, slots := 0, locals := 0 }
set_option maxHeartbeats 4000000 in
set_option maxRecDepth 100000 in
theorem c_X5_isThere (l : Launch) (D : va_G) (cI : ClassId) (a0 : Nat) (a1 : Nat) (g : Nat → Int32) (m2 : Nat) (t : Nat → Nat) (n : Nat) (w : Nat) (hm2 : m2 ≤ 1000) (hn : n ≤ 1000) (hw : w ≤ 1000) : RO l yX5_isThere wsX5_isThere rm_X5_isThere D cI [(a0, .inl (cI, m2, .inl g)), (a1, .inl (cI, n, .inl (nA t)))] [.ref a0, .ref a1, .int (nI w)] (.int (z1 (w + m2 ≤ n ∧ ∀ p, p < m2 → nI (t (w + p)) = g p))) := by
  refine ro_of (C := RX5) (cc := cX5_isThere) (maxL := 4) (ret := (some .boolean)) rfl (by decide) rfl (Nat.le_of_ble_eq_true rfl) ?_
  intro pg ev sv mi ag bl mt cd ls Q hQ hx hb hr hlocks hml hts hown hK hE hP hl
  have hP : va_P D vwCl [(a0, .inl (cI, m2, .inl g)), (a1, .inl (cI, n, .inl (nA t)))] sv.heap := hP
  have hl : lv_has ls 4 [(0, .ref a0), (1, .ref a1), (2, .int (nI w))] := hl
  refine lv_iload_n hx hb dX5_isThere_0 rfl (lv_at hl 2 rfl) ?_
  refine lv_aload_n hx hb dX5_isThere_1 rfl (lv_at hl 0 rfl) ?_
  refine va_alen (v := nI m2) hx hb hK hP 0 0 rfl rfl rfl dX5_isThere_2 ?_
  refine z_iadd hx hb dX5_isThere_3 ?_
  refine lv_aload_n hx hb dX5_isThere_4 rfl (lv_at hl 1 rfl) ?_
  refine va_alen (v := nI n) hx hb hK hP 1 0 rfl rfl rfl dX5_isThere_5 ?_
  refine z_icmp_le (tgt := 11) hx hb dX5_isThere_6 (by decide) (by omega) (by omega) (fun c_6 => ?_) (fun c_6 => ?_)
  · refine lv_iconst (v := nI 0) hx hb dX5_isThere_11 ci_0 ?_
    refine lv_istore_n (lv' := [(3, .int (nI 0)), (0, .ref a0), (1, .ref a1), (2, .int (nI w))]) hx hb dX5_isThere_12 rfl hl (by decide) rfl (fun ls hl => ?_)
    have lp_13 : ∀ (Nf : Nat) (i : Nat) (hi : i ≤ m2) (hall : ∀ p, p < i → nI (t (w + p)) = g p) (hN : m2 - i < Nf) (ls : Array Slot), lv_has ls 4 [(3, .int (nI i)), (0, .ref a0), (1, .ref a1), (2, .int (nI w))] → W pg l ev rm_X5_isThere sv mi ag bl mt cd sv.heap [] 0 0 Q (F0 mi 13 ls []) := by
      intro Nf
      induction Nf with
      | zero =>
        intro i hi hall hN
        exact absurd hN (Nat.not_lt_zero _)
      | succ Nf ih_13 =>
        intro i hi hall hN ls hl
        refine lv_iload_n hx hb dX5_isThere_13 rfl (lv_at hl 0 rfl) ?_
        refine lv_aload_n hx hb dX5_isThere_14 rfl (lv_at hl 1 rfl) ?_
        refine va_alen (v := nI m2) hx hb hK hP 0 0 rfl rfl rfl dX5_isThere_15 ?_
        refine z_icmp_ge (tgt := 38) hx hb dX5_isThere_16 (by decide) (by omega) (by omega) (fun c_16 => ?_) (fun c_16 => ?_)
        · refine lv_iconst (v := nI 1) hx hb dX5_isThere_38 ci_1 ?_
          exact ro_zret hQ hx hb hr hlocks (z1_1 ⟨by omega, fun p hp => hall p (by omega)⟩) dX5_isThere_39
        · refine lv_aload_n hx hb dX5_isThere_19 rfl (lv_at hl 2 rfl) ?_
          refine lv_iload_n hx hb dX5_isThere_20 rfl (lv_at hl 3 rfl) ?_
          refine lv_iload_n hx hb dX5_isThere_21 rfl (lv_at hl 0 rfl) ?_
          refine z_iadd hx hb dX5_isThere_22 ?_
          refine z_ialdN hx hb hK hP 1 0 rfl rfl (by omega) (by omega) dX5_isThere_23 ?_
          refine lv_aload_n hx hb dX5_isThere_24 rfl (lv_at hl 1 rfl) ?_
          refine lv_iload_n hx hb dX5_isThere_25 rfl (lv_at hl 0 rfl) ?_
          refine z_iald hx hb hK hP 0 0 rfl rfl (by omega) (by omega) dX5_isThere_26 ?_
          refine lv_icmp_eq (tgt := 32) hx hb dX5_isThere_27 (by decide) (fun c_27 => ?_) (fun c_27 => ?_)
          · refine lv_iinc (v := nI (i + 1)) (lv' := [(3, .int (nI (i + 1))), (0, .ref a0), (1, .ref a1), (2, .int (nI w))]) hx hb dX5_isThere_32 hl (k := 0) rfl (z_inc1 _) (by decide) rfl (fun ls hl => ?_)
            refine lv_goto (tgt := 13) hx hb dX5_isThere_35 (by decide) ?_
            exact ih_13 (i + 1) (by omega) (lt_s hall c_27) (by omega) ls (lv_sub hl [0, 1, 2, 3] rfl)
          · refine lv_iconst (v := nI 0) hx hb dX5_isThere_30 ci_0 ?_
            exact ro_zret hQ hx hb hr hlocks (z1_0 (fun q => c_27 (q.2 i (by omega)))) dX5_isThere_31
    exact lp_13 ((m2 - 0) + 1) 0 (Nat.zero_le _) (fun _ h => absurd h (Nat.not_lt_zero _)) (Nat.lt_succ_self _) ls hl
  · refine lv_iconst (v := nI 0) hx hb dX5_isThere_9 ci_0 ?_
    exact ro_zret hQ hx hb hr hlocks (z1_0 (fun q => absurd q.1 (by omega))) dX5_isThere_10
set_option maxHeartbeats 4000000 in
set_option maxRecDepth 100000 in
theorem c_X5_with_ (l : Launch) (D : va_G) (cI : ClassId) (ym : Nat) (t : Nat → Nat) (n : Nat) (x : Nat) (hn : n ≤ 24) (sz : Nat) : FR l yX5_with_ wsX5_with_ rm_X5_with_ D cI [(ym, .inl (cI, n, .inl (nA t)))] [.ref ym, .int (nI x)] sz (fun (v9 : Option Value) (u9 : Nat) => v9 = some (.ref u9)) (fun (u9 : Nat) => [(u9, .inl (cI, n + 1, .inl (nA (updN t n x))))]) 1 25 := by
  refine fr_of (C := RX5) (cc := cX5_with_) (maxL := 4) (ret := (some (.array .int))) rfl (by decide) rfl (Nat.le_of_ble_eq_true rfl) ?_
  intro pg ev sv mi ag bl mt cd ls Q A hA hA2 hQ hx hb hr hlocks hml hts hown _ hK hE hP0 hD0 H locs hP hS hl
  have hP0 : va_P D vwCl [(ym, .inl (cI, n, .inl (nA t)))] sv.heap := hP0
  have hD : zDD A [] := zDD.of hD0
  have hP : va_P D vwCl [] H := hP
  have hl : lv_has ls 4 [(0, .ref ym), (1, .int (nI x))] := hl
  refine lv_aload_n hx hb dX5_with__0 rfl (lv_at hl 0 rfl) ?_
  refine va_alen (v := nI n) hx hb hK (fr_old hP0 hS hA2) 0 0 rfl rfl rfl dX5_with__1 ?_
  refine lv_iconst (v := nI 1) hx hb dX5_with__2 ci_1 ?_
  refine z_iadd hx hb dX5_with__3 ?_
  refine zf_newaN (B := 25) hx hb (hts (.arrayClass .int) (by decide +kernel)) hK hP (hD.to rfl) hS hA (by omega) (by omega) (Nat.le_of_ble_eq_true rfl) (Nat.le_of_ble_eq_true rfl) dX5_with__4 (fun z H hP hD hS => ?_)
  have hP : va_P D vwCl [(z, .inl (cI, n + 1, .inl (nA (fun _ => 0))))] H := hP
  have hD : zDD A ([z]) := zDD.of hD
  refine lv_astore_n (lv' := [(2, .ref z), (0, .ref ym), (1, .int (nI x))]) hx hb dX5_with__6 rfl hl (by decide) rfl (fun ls hl => ?_)
  refine lv_iconst (v := nI 0) hx hb dX5_with__7 ci_0 ?_
  refine lv_istore_n (lv' := [(3, .int (nI 0)), (2, .ref z), (0, .ref ym), (1, .int (nI x))]) hx hb dX5_with__8 rfl hl (by decide) rfl (fun ls hl => ?_)
  have lp_9 : ∀ (Nf : Nat) (i : Nat) (f : Nat → Nat) (hi : i ≤ n) (hf : ∀ j, j < i → f j = t j) (hN : n - i < Nf) (H : Heap) (locs : List Loc) (ls : Array Slot), va_P D vwCl [(z, .inl (cI, n + 1, .inl (nA f)))] H → va_S A sv.heap H locs → lv_has ls 4 [(3, .int (nI i)), (2, .ref z), (0, .ref ym), (1, .int (nI x))] → W pg l ev rm_X5_with_ sv mi ag bl mt cd H locs 1 25 Q (F0 mi 9 ls []) := by
    intro Nf
    induction Nf with
    | zero =>
      intro i f hi hf hN
      exact absurd hN (Nat.not_lt_zero _)
    | succ Nf ih_9 =>
      intro i f hi hf hN H locs ls hP hS hl
      refine lv_iload_n hx hb dX5_with__9 rfl (lv_at hl 0 rfl) ?_
      refine lv_aload_n hx hb dX5_with__10 rfl (lv_at hl 2 rfl) ?_
      refine va_alen (v := nI n) hx hb hK (fr_old hP0 hS hA2) 0 0 rfl rfl rfl dX5_with__11 ?_
      refine z_icmp_ge (tgt := 27) hx hb dX5_with__12 (by decide) (by omega) (by omega) (fun c_12 => ?_) (fun c_12 => ?_)
      · refine lv_aload_n hx hb dX5_with__27 rfl (lv_at hl 1 rfl) ?_
        refine lv_aload_n hx hb dX5_with__28 rfl (lv_at hl 2 rfl) ?_
        refine va_alen (v := nI n) hx hb hK (fr_old hP0 hS hA2) 0 0 rfl rfl rfl dX5_with__29 ?_
        refine lv_iload_n hx hb dX5_with__30 rfl (lv_at hl 3 rfl) ?_
        refine z_iastN hx hb hK hP hD rfl hS 0 0 rfl rfl (by omega) (by omega) dX5_with__31 (fun H locs hP hS => ?_)
        have hP : va_P D vwCl [(z, .inl (cI, n + 1, .inl (nA (updN f n x))))] H := hP
        refine lv_aload_n hx hb dX5_with__32 rfl (lv_at hl 1 rfl) ?_
        have hP := fr_setI hP 0 (nA (updN t n x)) rfl (fun j hj => by
          show nI (updN f n x j) = nI (updN t n x j)
          by_cases e : j = n
          · rw [e, updN_s, updN_s]
          · rw [updN_n _ e, updN_n _ e, hf j (by omega)])
        have hP : va_P D vwCl [(z, .inl (cI, n + 1, .inl (nA (updN t n x))))] H := hP
        exact fr_aret hQ hx hb hr (Or.inr ⟨_, rfl⟩) hlocks (Nat.le_of_ble_eq_true rfl) (Nat.le_of_ble_eq_true rfl) (z) hP (hD.to rfl) hS rfl dX5_with__33
      · refine lv_aload_n hx hb dX5_with__15 rfl (lv_at hl 1 rfl) ?_
        refine lv_iload_n hx hb dX5_with__16 rfl (lv_at hl 0 rfl) ?_
        refine lv_aload_n hx hb dX5_with__17 rfl (lv_at hl 2 rfl) ?_
        refine lv_iload_n hx hb dX5_with__18 rfl (lv_at hl 0 rfl) ?_
        refine z_ialdN hx hb hK (fr_old hP0 hS hA2) 0 0 rfl rfl (by omega) (by omega) dX5_with__19 ?_
        refine z_iastN hx hb hK hP hD rfl hS 0 0 rfl rfl (by omega) (by omega) dX5_with__20 (fun H locs hP hS => ?_)
        have hP : va_P D vwCl [(z, .inl (cI, n + 1, .inl (nA (updN f i (t i)))))] H := hP
        refine lv_iinc (v := nI (i + 1)) (lv' := [(3, .int (nI (i + 1))), (2, .ref z), (0, .ref ym), (1, .int (nI x))]) hx hb dX5_with__21 hl (k := 0) rfl (z_inc1 _) (by decide) rfl (fun ls hl => ?_)
        refine lv_goto (tgt := 9) hx hb dX5_with__24 (by decide) ?_
        exact ih_9 (i + 1) (updN f i (t i)) (by omega) (lt_s (fun j hj => by rw [updN_n _ (by omega)]; exact hf j hj) (updN_s _ _ _)) (by omega) H locs ls hP hS (lv_sub hl [0, 1, 2, 3] rfl)
  exact lp_9 ((n - 0) + 1) 0 (fun _ => 0) (Nat.zero_le _) (fun _ h => absurd h (Nat.not_lt_zero _)) (Nat.lt_succ_self _) H locs ls hP hS hl
set_option maxHeartbeats 4000000 in
set_option maxRecDepth 100000 in
theorem c_X5_with (l : Launch) (D : va_G) (cI : ClassId) (yk : Nat) (R : Nat → Nat) (T : Nat → Int32) (Lf : Nat → Nat) (k : Nat) (rr : Nat) (m2 : Nat) (g : Nat → Int32) (hk : k ≤ 8) (sz : Nat) : FR l yX5_with wsX5_with rm_X5_with D cI ((yk, .inl (zQ D, k, .inr (.inr (.inr (.inr (zrf R)))))) :: (rr, .inl (cI, m2, .inl g)) :: rwW cI R Lf T k) [.ref yk, .ref rr] sz (fun (v9 : Option Value) (u9 : Nat) => v9 = some (.ref u9)) (fun (u9 : Nat) => [(u9, .inl (zQ D, k + 1, .inr (.inr (.inr (.inr (zrf (updN R k rr)))))))]) 1 9 := by
  refine fr_of (C := RX5) (cc := cX5_with) (maxL := 4) (ret := (some (.array (.array .int)))) rfl (by decide) rfl (Nat.le_of_ble_eq_true rfl) ?_
  intro pg ev sv mi ag bl mt cd ls Q A hA hA2 hQ hx hb hr hlocks hml hts hown _ hK hE hP0 hD0 H locs hP hS hl
  have hP0 : va_P D vwCl ((yk, .inl (zQ D, k, .inr (.inr (.inr (.inr (zrf R)))))) :: (rr, .inl (cI, m2, .inl g)) :: rwW cI R Lf T k) sv.heap := hP0
  have hD : zDD A [] := zDD.of hD0
  have hP : va_P D vwCl [] H := hP
  have hl : lv_has ls 4 [(0, .ref yk), (1, .ref rr)] := hl
  refine lv_aload_n hx hb dX5_with_0 rfl (lv_at hl 0 rfl) ?_
  refine zq_len hx hb hK hE (fr_old hP0 hS hA2) 0 rfl dX5_with_1 ?_
  refine lv_iconst (v := nI 1) hx hb dX5_with_2 ci_1 ?_
  refine z_iadd hx hb dX5_with_3 ?_
  refine zq_new (B := 9) hx hb hown (hts (.classLink RX5 7 "[I") (by decide +kernel)) hE hP (hD.to rfl) hS hA (by omega) (by omega) (Nat.le_of_ble_eq_true rfl) (Nat.le_of_ble_eq_true rfl) dX5_with_4 (fun z H _ hP hD hS => ?_)
  have hP : va_P D vwCl [(z, .inl (zQ D, k + 1, .inr (.inr (.inr (.inr (fun _ => none))))))] H := hP
  have hD : zDD A ([z]) := zDD.of hD
  refine lv_astore_n (lv' := [(2, .ref z), (0, .ref yk), (1, .ref rr)]) hx hb dX5_with_7 rfl hl (by decide) rfl (fun ls hl => ?_)
  refine lv_iconst (v := nI 0) hx hb dX5_with_8 ci_0 ?_
  refine lv_istore_n (lv' := [(3, .int (nI 0)), (2, .ref z), (0, .ref yk), (1, .ref rr)]) hx hb dX5_with_9 rfl hl (by decide) rfl (fun ls hl => ?_)
  have lp_10 : ∀ (Nf : Nat) (i : Nat) (F : Nat → Option Nat) (hi : i ≤ k) (hf : ∀ j, j < i → F j = some (R j)) (hN : k - i < Nf) (H : Heap) (locs : List Loc) (ls : Array Slot), va_P D vwCl [(z, .inl (zQ D, k + 1, .inr (.inr (.inr (.inr F)))))] H → va_S A sv.heap H locs → lv_has ls 4 [(3, .int (nI i)), (2, .ref z), (0, .ref yk), (1, .ref rr)] → W pg l ev rm_X5_with sv mi ag bl mt cd H locs 1 9 Q (F0 mi 10 ls []) := by
    intro Nf
    induction Nf with
    | zero =>
      intro i F hi hf hN
      exact absurd hN (Nat.not_lt_zero _)
    | succ Nf ih_10 =>
      intro i F hi hf hN H locs ls hP hS hl
      refine lv_iload_n hx hb dX5_with_10 rfl (lv_at hl 0 rfl) ?_
      refine lv_aload_n hx hb dX5_with_11 rfl (lv_at hl 2 rfl) ?_
      refine zq_len hx hb hK hE (fr_old hP0 hS hA2) 0 rfl dX5_with_12 ?_
      refine z_icmp_ge (tgt := 28) hx hb dX5_with_13 (by decide) (by omega) (by omega) (fun c_13 => ?_) (fun c_13 => ?_)
      · refine lv_aload_n hx hb dX5_with_28 rfl (lv_at hl 1 rfl) ?_
        refine lv_aload_n hx hb dX5_with_29 rfl (lv_at hl 2 rfl) ?_
        refine zq_len hx hb hK hE (fr_old hP0 hS hA2) 0 rfl dX5_with_30 ?_
        refine lv_aload_n hx hb dX5_with_31 rfl (lv_at hl 3 rfl) ?_
        refine zq_ast hx hb hK hE hP hD rfl hS 0 rfl (fr_old hP0 hS hA2) 1 rfl (by omega) (by omega) dX5_with_32 (fun H locs hP hS _ _ => ?_)
        have hP : va_P D vwCl [(z, .inl (zQ D, k + 1, .inr (.inr (.inr (.inr (va_up F k (some rr)))))))] H := hP
        refine lv_aload_n hx hb dX5_with_33 rfl (lv_at hl 1 rfl) ?_
        have hP := fr_setQ hP 0 (zrf (updN R k rr)) rfl (fun j hj => by
          by_cases e : j = k
          · subst e; rw [zup_s]; show _ = some (updN R j rr j); rw [updN_s]
          · rw [zup_n _ _ e, hf j (by omega)]; show _ = some (updN R k rr j); rw [updN_n _ e])
        have hP : va_P D vwCl [(z, .inl (zQ D, k + 1, .inr (.inr (.inr (.inr (zrf (updN R k rr)))))))] H := hP
        exact fr_aret hQ hx hb hr (Or.inr ⟨_, rfl⟩) hlocks (Nat.le_of_ble_eq_true rfl) (Nat.le_of_ble_eq_true rfl) (z) hP (hD.to rfl) hS rfl dX5_with_34
      · refine lv_aload_n hx hb dX5_with_16 rfl (lv_at hl 1 rfl) ?_
        refine lv_iload_n hx hb dX5_with_17 rfl (lv_at hl 0 rfl) ?_
        refine lv_aload_n hx hb dX5_with_18 rfl (lv_at hl 2 rfl) ?_
        refine lv_iload_n hx hb dX5_with_19 rfl (lv_at hl 0 rfl) ?_
        refine zq_ald (r := R i) hx hb hK hE (fr_old hP0 hS hA2) 0 rfl (by omega) (by omega) rfl dX5_with_20 ?_
        refine zq_ast hx hb hK hE hP hD rfl hS 0 rfl (rw_get 2 (fr_old hP0 hS hA2) rfl (by omega)) 0 rfl (by omega) (by omega) dX5_with_21 (fun H locs hP hS _ _ => ?_)
        have hP : va_P D vwCl [(z, .inl (zQ D, k + 1, .inr (.inr (.inr (.inr (va_up F i (some (R i))))))))] H := hP
        refine lv_iinc (v := nI (i + 1)) (lv' := [(3, .int (nI (i + 1))), (2, .ref z), (0, .ref yk), (1, .ref rr)]) hx hb dX5_with_22 hl (k := 0) rfl (z_inc1 _) (by decide) rfl (fun ls hl => ?_)
        refine lv_goto (tgt := 10) hx hb dX5_with_25 (by decide) ?_
        exact ih_10 (i + 1) (va_up F i (some (R i))) (by omega) (lt_s (fun j hj => by rw [zup_n _ _ (by omega)]; exact hf j hj) (zup_s _ _ _)) (by omega) H locs ls hP hS (lv_sub hl [0, 1, 2, 3] rfl)
  exact lp_10 ((k - 0) + 1) 0 (fun _ => none) (Nat.zero_le _) (fun _ h => absurd h (Nat.not_lt_zero _)) (Nat.lt_succ_self _) H locs ls hP hS hl
set_option maxHeartbeats 4000000 in
set_option maxRecDepth 100000 in
theorem c_X5_without (l : Launch) (D : va_G) (cI : ClassId) (yk : Nat) (R : Nat → Nat) (T : Nat → Int32) (Lf : Nat → Nat) (k : Nat) (j : Nat) (hk : k ≤ 8) (hj : j < k) (sz : Nat) : FR l yX5_without wsX5_without rm_X5_without D cI ((yk, .inl (zQ D, k, .inr (.inr (.inr (.inr (zrf R)))))) :: rwW cI R Lf T k) [.ref yk, .int (nI j)] sz (fun (v9 : Option Value) (u9 : Nat) => v9 = some (.ref u9)) (fun (u9 : Nat) => [(u9, .inl (zQ D, k - 1, .inr (.inr (.inr (.inr (zrf (dcR R j)))))))]) 1 8 := by
  refine fr_of (C := RX5) (cc := cX5_without) (maxL := 4) (ret := (some (.array (.array .int)))) rfl (by decide) rfl (Nat.le_of_ble_eq_true rfl) ?_
  intro pg ev sv mi ag bl mt cd ls Q A hA hA2 hQ hx hb hr hlocks hml hts hown _ hK hE hP0 hD0 H locs hP hS hl
  have hP0 : va_P D vwCl ((yk, .inl (zQ D, k, .inr (.inr (.inr (.inr (zrf R)))))) :: rwW cI R Lf T k) sv.heap := hP0
  have hD : zDD A [] := zDD.of hD0
  have hP : va_P D vwCl [] H := hP
  have hl : lv_has ls 4 [(0, .ref yk), (1, .int (nI j))] := hl
  refine lv_aload_n hx hb dX5_without_0 rfl (lv_at hl 0 rfl) ?_
  refine zq_len hx hb hK hE (fr_old hP0 hS hA2) 0 rfl dX5_without_1 ?_
  refine lv_iconst (v := nI 1) hx hb dX5_without_2 ci_1 ?_
  refine z_isub hx hb dX5_without_3 (by omega) ?_
  refine zq_new (B := 8) hx hb hown (hts (.classLink RX5 7 "[I") (by decide +kernel)) hE hP (hD.to rfl) hS hA (by omega) (by omega) (Nat.le_of_ble_eq_true rfl) (Nat.le_of_ble_eq_true rfl) dX5_without_4 (fun z H _ hP hD hS => ?_)
  have hP : va_P D vwCl [(z, .inl (zQ D, k - 1, .inr (.inr (.inr (.inr (fun _ => none))))))] H := hP
  have hD : zDD A ([z]) := zDD.of hD
  refine lv_astore_n (lv' := [(2, .ref z), (0, .ref yk), (1, .int (nI j))]) hx hb dX5_without_7 rfl hl (by decide) rfl (fun ls hl => ?_)
  refine lv_iconst (v := nI 0) hx hb dX5_without_8 ci_0 ?_
  refine lv_istore_n (lv' := [(3, .int (nI 0)), (2, .ref z), (0, .ref yk), (1, .int (nI j))]) hx hb dX5_without_9 rfl hl (by decide) rfl (fun ls hl => ?_)
  have lp_10 : ∀ (Nf : Nat) (i : Nat) (F : Nat → Option Nat) (hi : i ≤ k - 1) (hf : ∀ a, a < i → F a = some (dcR R j a)) (hN : k - 1 - i < Nf) (H : Heap) (locs : List Loc) (ls : Array Slot), va_P D vwCl [(z, .inl (zQ D, k - 1, .inr (.inr (.inr (.inr F)))))] H → va_S A sv.heap H locs → lv_has ls 4 [(3, .int (nI i)), (2, .ref z), (0, .ref yk), (1, .int (nI j))] → W pg l ev rm_X5_without sv mi ag bl mt cd H locs 1 8 Q (F0 mi 10 ls []) := by
    intro Nf
    induction Nf with
    | zero =>
      intro i F hi hf hN
      exact absurd hN (Nat.not_lt_zero _)
    | succ Nf ih_10 =>
      intro i F hi hf hN H locs ls hP hS hl
      refine lv_iload_n hx hb dX5_without_10 rfl (lv_at hl 0 rfl) ?_
      refine lv_aload_n hx hb dX5_without_11 rfl (lv_at hl 1 rfl) ?_
      refine zq_len hx hb hK hE hP 0 rfl dX5_without_12 ?_
      refine z_icmp_ge (tgt := 39) hx hb dX5_without_13 (by decide) (by omega) (by omega) (fun c_13 => ?_) (fun c_13 => ?_)
      · refine lv_aload_n hx hb dX5_without_39 rfl (lv_at hl 1 rfl) ?_
        have hP := fr_setQ hP 0 (zrf (dcR R j)) rfl (fun a ha => hf a (by omega))
        have hP : va_P D vwCl [(z, .inl (zQ D, k - 1, .inr (.inr (.inr (.inr (zrf (dcR R j)))))))] H := hP
        exact fr_aret hQ hx hb hr (Or.inr ⟨_, rfl⟩) hlocks (Nat.le_of_ble_eq_true rfl) (Nat.le_of_ble_eq_true rfl) (z) hP (hD.to rfl) hS rfl dX5_without_40
      · refine lv_aload_n hx hb dX5_without_16 rfl (lv_at hl 1 rfl) ?_
        refine lv_iload_n hx hb dX5_without_17 rfl (lv_at hl 0 rfl) ?_
        refine lv_aload_n hx hb dX5_without_18 rfl (lv_at hl 2 rfl) ?_
        refine lv_iload_n hx hb dX5_without_19 rfl (lv_at hl 0 rfl) ?_
        refine lv_iload_n hx hb dX5_without_20 rfl (lv_at hl 3 rfl) ?_
        refine z_icmp_ge (tgt := 28) hx hb dX5_without_21 (by decide) (by omega) (by omega) (fun c_21 => ?_) (fun c_21 => ?_)
        · refine lv_iload_n hx hb dX5_without_28 rfl (lv_at hl 0 rfl) ?_
          refine lv_iconst (v := nI 1) hx hb dX5_without_29 ci_1 ?_
          refine z_iadd hx hb dX5_without_30 ?_
          refine zq_ald (r := R (i + 1)) hx hb hK hE (fr_old hP0 hS hA2) 0 rfl (by omega) (by omega) rfl dX5_without_31 ?_
          refine zq_ast hx hb hK hE hP hD rfl hS 0 rfl (rw_get 1 (fr_old hP0 hS hA2) rfl (by omega)) 0 rfl (by omega) (by omega) dX5_without_32 (fun H locs hP hS _ _ => ?_)
          have hP : va_P D vwCl [(z, .inl (zQ D, k - 1, .inr (.inr (.inr (.inr (va_up F i (some (R (i + 1)))))))))] H := hP
          refine lv_iinc (v := nI (i + 1)) (lv' := [(3, .int (nI (i + 1))), (2, .ref z), (0, .ref yk), (1, .int (nI j))]) hx hb dX5_without_33 hl (k := 0) rfl (z_inc1 _) (by decide) rfl (fun ls hl => ?_)
          refine lv_goto (tgt := 10) hx hb dX5_without_36 (by decide) ?_
          exact ih_10 (i + 1) (va_up F i (some (R (i + 1)))) (by omega) (lt_s (fun a ha => by rw [zup_n _ _ (by omega)]; exact hf a ha) (by rw [zup_s]; unfold dcR; first | rw [if_pos c_21] | rw [if_neg (by omega)])) (by omega) H locs ls hP hS (lv_sub hl [0, 1, 2, 3] rfl)
        · refine lv_iload_n hx hb dX5_without_24 rfl (lv_at hl 0 rfl) ?_
          refine lv_goto (tgt := 31) hx hb dX5_without_25 (by decide) ?_
          refine zq_ald (r := R i) hx hb hK hE (fr_old hP0 hS hA2) 0 rfl (by omega) (by omega) rfl dX5_without_31 ?_
          refine zq_ast hx hb hK hE hP hD rfl hS 0 rfl (rw_get 1 (fr_old hP0 hS hA2) rfl (by omega)) 0 rfl (by omega) (by omega) dX5_without_32 (fun H locs hP hS _ _ => ?_)
          have hP : va_P D vwCl [(z, .inl (zQ D, k - 1, .inr (.inr (.inr (.inr (va_up F i (some (R i))))))))] H := hP
          refine lv_iinc (v := nI (i + 1)) (lv' := [(3, .int (nI (i + 1))), (2, .ref z), (0, .ref yk), (1, .int (nI j))]) hx hb dX5_without_33 hl (k := 0) rfl (z_inc1 _) (by decide) rfl (fun ls hl => ?_)
          refine lv_goto (tgt := 10) hx hb dX5_without_36 (by decide) ?_
          exact ih_10 (i + 1) (va_up F i (some (R i))) (by omega) (lt_s (fun a ha => by rw [zup_n _ _ (by omega)]; exact hf a ha) (by rw [zup_s]; unfold dcR; first | rw [if_pos c_21] | rw [if_neg (by omega)])) (by omega) H locs ls hP hS (lv_sub hl [0, 1, 2, 3] rfl)
  exact lp_10 ((k - 1 - 0) + 1) 0 (fun _ => none) (Nat.zero_le _) (fun _ h => absurd h (Nat.not_lt_zero _)) (Nat.lt_succ_self _) H locs ls hP hS hl
set_option maxHeartbeats 4000000 in
set_option maxRecDepth 100000 in
theorem c_X5_isGarbled (l : Launch) (D : va_G) (cI : ClassId) (x : Nat) (q : Nat) (hx : x ≤ 200000) (hq : q ≤ 9) : RO l yX5_isGarbled wsX5_isGarbled rm_X5_isGarbled D cI [] [.int (nI x), .int (nI q)] (.int (z1 (gB q x))) := by
  refine ro_of (C := RX5) (cc := cX5_isGarbled) (maxL := 2) (ret := (some .boolean)) rfl (by decide) rfl (Nat.le_of_ble_eq_true rfl) ?_
  intro pg ev sv mi ag bl mt cd ls Q hQ hx hb hr hlocks hml hts hown hK hE hP hl
  have hP : va_P D vwCl [] sv.heap := hP
  have hl : lv_has ls 2 [(0, .int (nI x)), (1, .int (nI q))] := hl
  refine lv_iload_n hx hb dX5_isGarbled_0 rfl (lv_at hl 0 rfl) ?_
  refine z_bipush (n := 7) hx hb rfl (by decide) dX5_isGarbled_1 ?_
  refine z_imul hx hb dX5_isGarbled_3 ?_
  refine lv_iload_n hx hb dX5_isGarbled_4 rfl (lv_at hl 0 rfl) ?_
  refine z_bipush (n := 10) hx hb rfl (by decide) dX5_isGarbled_5 ?_
  refine z_idiv hx hb dX5_isGarbled_7 (by omega) (by omega) (by omega) ?_
  refine z_iadd hx hb dX5_isGarbled_8 ?_
  refine z_bipush (n := 10) hx hb rfl (by decide) dX5_isGarbled_9 ?_
  refine z_irem hx hb dX5_isGarbled_11 (by omega) (by omega) (by omega) ?_
  refine lv_iload_n hx hb dX5_isGarbled_12 rfl (lv_at hl 1 rfl) ?_
  refine z_icmp_lt (tgt := 20) hx hb dX5_isGarbled_13 (by decide) (by omega) (by omega) (fun c_13 => ?_) (fun c_13 => ?_)
  · refine lv_iconst (v := nI 0) hx hb dX5_isGarbled_20 ci_0 ?_
    exact ro_zret hQ hx hb hr hlocks (z1_0 (by unfold gB; omega)) dX5_isGarbled_21
  · refine lv_iconst (v := nI 1) hx hb dX5_isGarbled_16 ci_1 ?_
    refine lv_goto (tgt := 21) hx hb dX5_isGarbled_17 (by decide) ?_
    exact ro_zret hQ hx hb hr hlocks (z1_1 (by unfold gB; omega)) dX5_isGarbled_21
