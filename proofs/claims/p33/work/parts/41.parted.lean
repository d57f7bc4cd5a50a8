theorem hd_X5_parted : yX5_parted.cls ≠ "java/lang/invoke/MethodHandle" ∧ yX5_parted.cls ≠ "java/lang/invoke/VarHandle" ∧ (parseMethodDescriptor yX5_parted.desc).map (fun d => d.parameters.length) = some 2 := by decide +kernel
abbrev rm_X5_parted : Room := { frames := 1, cells := 3, slots := 52, locals := 23 }
set_option maxHeartbeats 4000000 in
set_option maxRecDepth 100000 in
theorem c_X5_parted (l : Launch) (D : va_G) (cI : ClassId) (yk : Nat) (ym : Nat) (R : Nat → Nat) (T : Nat → Int32) (Lf : Nat → Nat) (k : Nat) (t : Nat → Nat) (n : Nat) (f : Nat → Nat) (lf : Nat → Nat) (C : Nat → Int32) (ps : Nat → Nat) (cnt : Nat) (hn : n ≤ 24) (hk : k ≤ 8) (hL : ∀ c, c < k → 2 ≤ Lf c ∧ Lf c ≤ 4) (hpart : PartC t n T Lf k (-1) 0 0 f lf C ps cnt) (sz : Nat) : FR l yX5_parted wsX5_parted rm_X5_parted D cI ((yk, .inl (zQ D, k, .inr (.inr (.inr (.inr (zrf R)))))) :: (ym, .inl (cI, n, .inl (nA t))) :: rwW cI R Lf T k) [.ref yk, .ref ym] sz (fun (v9 : Option Value) (u9 : Nat × Nat × Nat) => v9 = some (.ref u9.1)) (fun (u9 : Nat × Nat × Nat) => [(u9.1, .inl (zQ D, 2, .inr (.inr (.inr (.inr (zq2 u9.2.2 u9.2.1)))))), (u9.2.1, .inl (cI, n + 1, .inl (nA (lfz lf n)))), (u9.2.2, .inl (cI, n + 1, .inl (nA f)))]) 3 52 := by
  refine fr_of (C := RX5) (cc := cX5_parted) (maxL := 12) (ret := (some (.array (.array .int)))) rfl (by decide) rfl (Nat.le_of_ble_eq_true rfl) ?_
  intro pg ev sv mi ag bl mt cd ls Q A hA hA2 hQ hx hb hr hlocks hml hts hown _ hK hE hP0 hD0 H locs hP hS hl
  have hP0 : va_P D vwCl ((yk, .inl (zQ D, k, .inr (.inr (.inr (.inr (zrf R)))))) :: (ym, .inl (cI, n, .inl (nA t))) :: rwW cI R Lf T k) sv.heap := hP0
  have hD : zDD A [] := zDD.of hD0
  have hP : va_P D vwCl [] H := hP
  have hl : lv_has ls 12 [(0, .ref yk), (1, .ref ym)] := hl
  have hpo := po_of hpart
  refine lv_aload_n hx hb dX5_parted_0 rfl (lv_at hl 1 rfl) ?_
  refine va_alen (v := nI n) hx hb hK (fr_old hP0 hS hA2) 1 0 rfl rfl rfl dX5_parted_1 ?_
  refine lv_istore_n (lv' := [(2, .int (nI n)), (0, .ref yk), (1, .ref ym)]) hx hb dX5_parted_2 rfl hl (by decide) rfl (fun ls hl => ?_)
  refine lv_iload_n hx hb dX5_parted_3 rfl (lv_at hl 0 rfl) ?_
  refine lv_iconst (v := nI 1) hx hb dX5_parted_4 ci_1 ?_
  refine z_iadd hx hb dX5_parted_5 ?_
  refine zf_newaN (B := 25) hx hb (hts (.arrayClass .int) (by decide +kernel)) hK hP (hD.to rfl) hS hA (by omega) (by omega) (Nat.le_of_ble_eq_true rfl) (Nat.le_of_ble_eq_true rfl) dX5_parted_6 (fun ma H hP hD hS => ?_)
  have hP : va_P D vwCl [(ma, .inl (cI, n + 1, .inl (nA (fun _ => 0))))] H := hP
  have hD : zDD A ([ma]) := zDD.of hD
  refine lv_astore_n (lv' := [(3, .ref ma), (2, .int (nI n)), (0, .ref yk), (1, .ref ym)]) hx hb dX5_parted_8 rfl hl (by decide) rfl (fun ls hl => ?_)
  refine lv_iload_n hx hb dX5_parted_9 rfl (lv_at hl 1 rfl) ?_
  refine lv_iconst (v := nI 1) hx hb dX5_parted_10 ci_1 ?_
  refine z_iadd hx hb dX5_parted_11 ?_
  refine zf_newaN (B := 25) hx hb (hts (.arrayClass .int) (by decide +kernel)) hK hP (hD.to rfl) hS hA (by omega) (by omega) (Nat.le_of_ble_eq_true rfl) (Nat.le_of_ble_eq_true rfl) dX5_parted_12 (fun le H hP hD hS => ?_)
  have hP : va_P D vwCl [(le, .inl (cI, n + 1, .inl (nA (fun _ => 0)))), (ma, .inl (cI, n + 1, .inl (nA (fun _ => 0))))] H := hP
  have hD : zDD A ([le, ma]) := zDD.of hD
  refine lv_astore (lv' := [(4, .ref le), (3, .ref ma), (2, .int (nI n)), (0, .ref yk), (1, .ref ym)]) hx hb dX5_parted_14 hl (by decide) rfl (fun ls hl => ?_)
  refine lv_iload_n hx hb dX5_parted_16 rfl (lv_at hl 2 rfl) ?_
  refine lv_iconst (v := nI 1) hx hb dX5_parted_17 ci_1 ?_
  refine lv_isub hx hb dX5_parted_18 ?_
  refine lv_istore (lv' := [(5, .int (nI n - nI 1)), (4, .ref le), (3, .ref ma), (2, .int (nI n)), (0, .ref yk), (1, .ref ym)]) hx hb dX5_parted_19 hl (by decide) rfl (fun ls hl => ?_)
  have lp_21 : ∀ (Nf : Nat) (w : Nat) (F : Nat → Nat) (G : Nat → Nat) (hwn : w ≤ n) (hF : ∀ j, w ≤ j → j ≤ n → F j = f j) (hG : ∀ j, w ≤ j → j < n → G j = lf j) (hz : G n = 0) (hN : w < Nf) (H : Heap) (locs : List Loc) (ls : Array Slot), va_P D vwCl [(le, .inl (cI, n + 1, .inl (nA G))), (ma, .inl (cI, n + 1, .inl (nA F)))] H → va_S A sv.heap H locs → lv_has ls 12 [(5, .int (nI w - nI 1)), (4, .ref le), (3, .ref ma), (2, .int (nI n)), (0, .ref yk), (1, .ref ym)] → W pg l ev rm_X5_parted sv mi ag bl mt cd H locs 2 50 Q (F0 mi 21 ls []) := by
    intro Nf
    induction Nf with
    | zero =>
      intro w F G hwn hF hG hz hN
      exact absurd hN (Nat.not_lt_zero _)
    | succ Nf ih_21 =>
      intro w F G hwn hF hG hz hN H locs ls hP hS hl
      refine lv_iload hx hb dX5_parted_21 (lv_at hl 0 rfl) ?_
      refine lv_if_lt (tgt := 181) hx hb dX5_parted_23 (by decide) (fun c_23 => ?_) (fun c_23 => ?_)
      · obtain rfl := z_p0 (by omega) c_23
        refine lv_iconst (v := nI 2) hx hb dX5_parted_181 ci_2 ?_
        refine zq_new (B := 2) hx hb hown (hts (.classLink RX5 7 "[I") (by decide +kernel)) hE hP (hD.to rfl) hS hA (by decide) (by decide) (Nat.le_of_ble_eq_true rfl) (Nat.le_of_ble_eq_true rfl) dX5_parted_182 (fun z H _ hP hD hS => ?_)
        have hP : va_P D vwCl [(z, .inl (zQ D, 2, .inr (.inr (.inr (.inr (fun _ => none)))))), (le, .inl (cI, n + 1, .inl (nA G))), (ma, .inl (cI, n + 1, .inl (nA F)))] H := hP
        have hD : zDD A ([z, le, ma]) := zDD.of hD
        refine lv_dup hx hb dX5_parted_185 rfl ?_
        refine lv_iconst (v := nI 0) hx hb dX5_parted_186 ci_0 ?_
        refine lv_aload_n hx hb dX5_parted_187 rfl (lv_at hl 2 rfl) ?_
        refine zq_ast hx hb hK hE hP hD rfl hS 0 rfl hP 2 rfl (by omega) (by omega) dX5_parted_188 (fun H locs hP hS _ _ => ?_)
        have hP : va_P D vwCl [(z, .inl (zQ D, 2, .inr (.inr (.inr (.inr (va_up (fun _ => none) 0 (some ma))))))), (le, .inl (cI, n + 1, .inl (nA G))), (ma, .inl (cI, n + 1, .inl (nA F)))] H := hP
        refine lv_dup hx hb dX5_parted_189 rfl ?_
        refine lv_iconst (v := nI 1) hx hb dX5_parted_190 ci_1 ?_
        refine lv_aload hx hb dX5_parted_191 (lv_at hl 1 rfl) ?_
        refine zq_ast hx hb hK hE hP hD rfl hS 0 rfl hP 1 rfl (by omega) (by omega) dX5_parted_193 (fun H locs hP hS _ _ => ?_)
        have hP : va_P D vwCl [(z, .inl (zQ D, 2, .inr (.inr (.inr (.inr (va_up (va_up (fun _ => none) 0 (some ma)) 1 (some le))))))), (le, .inl (cI, n + 1, .inl (nA G))), (ma, .inl (cI, n + 1, .inl (nA F)))] H := hP
        have hP := fr_setQ hP 0 (zq2 ma le) rfl (fun j hj => by
          rcases (by omega : j = 0 ∨ j = 1) with rfl | rfl
          · rw [zup_n _ _ (by decide), zup_s]; rfl
          · rw [zup_s]; rfl)
        have hP : va_P D vwCl [(z, .inl (zQ D, 2, .inr (.inr (.inr (.inr (zq2 ma le)))))), (le, .inl (cI, n + 1, .inl (nA G))), (ma, .inl (cI, n + 1, .inl (nA F)))] H := hP
        have hP := fr_setI hP 1 (nA (lfz lf n)) rfl (fun j hj => by
          show nI (G j) = nI (lfz lf n j)
          by_cases e : j < n
          · rw [lfz_in e, hG j (by omega) e]
          · rw [lfz_out e, show j = n by omega, hz])
        have hP : va_P D vwCl [(z, .inl (zQ D, 2, .inr (.inr (.inr (.inr (zq2 ma le)))))), (le, .inl (cI, n + 1, .inl (nA (lfz lf n)))), (ma, .inl (cI, n + 1, .inl (nA F)))] H := hP
        have hP := fr_setI hP 2 (nA f) rfl (fun j hj => congrArg nI (hF j (by omega) (by omega)))
        have hP : va_P D vwCl [(z, .inl (zQ D, 2, .inr (.inr (.inr (.inr (zq2 ma le)))))), (le, .inl (cI, n + 1, .inl (nA (lfz lf n)))), (ma, .inl (cI, n + 1, .inl (nA f)))] H := hP
        exact fr_aret hQ hx hb hr (Or.inr ⟨_, rfl⟩) hlocks (Nat.le_of_ble_eq_true rfl) (Nat.le_of_ble_eq_true rfl) (z, le, ma) hP (hD.to rfl) hS rfl dX5_parted_194
      · obtain ⟨u, rfl⟩ := z_p1 c_23
        rw [z_pred] at hl
        have hu : u < n := by omega
        have hPO := hpo.2 u hu
        have hvb : ∀ g, av (mtC t n T Lf (-1)) Lf k u g → 1 ≤ g ∧ g ≤ 4 ∧ u + g ≤ n := fun g hg => av_b hL hu hg
        have hf24 : ∀ j, j ≤ n → f j ≤ 24 := fun j hj => by have := hpart.1.2.2.1 j (Nat.zero_le _) hj; omega
        refine lv_aload_n hx hb dX5_parted_26 rfl (lv_at hl 2 rfl) ?_
        refine lv_iload hx hb dX5_parted_27 (lv_at hl 0 rfl) ?_
        refine z_bipush (n := 99) hx hb rfl (by decide) dX5_parted_29 ?_
        refine z_iastN hx hb hK hP hD rfl hS 1 0 rfl rfl (by omega) (by omega) dX5_parted_31 (fun H locs hP hS => ?_)
        have hP : va_P D vwCl [(le, .inl (cI, n + 1, .inl (nA G))), (ma, .inl (cI, n + 1, .inl (nA (updN F u 99))))] H := hP
        refine lv_iconst (v := nI 1) hx hb dX5_parted_32 ci_1 ?_
        refine lv_istore (lv' := [(6, .int (nI 1)), (5, .int (nI u)), (4, .ref le), (3, .ref ma), (2, .int (nI n)), (0, .ref yk), (1, .ref ym)]) hx hb dX5_parted_33 hl (by decide) rfl (fun ls hl => ?_)
        have lp_35 : ∀ (Nf : Nat) (far : Nat) (F1 : Nat → Nat) (G1 : Nat → Nat) (hfar : 1 ≤ far ∧ far ≤ 5) (hF1 : ∀ j, j ≠ u → F1 j = F j) (hG1 : ∀ j, j ≠ u → G1 j = G j) (hpb : PB (mtC t n T Lf (-1)) Lf k f u far (F1 u) (G1 u)) (hN : 5 - far < Nf) (H : Heap) (locs : List Loc) (ls : Array Slot), va_P D vwCl [(le, .inl (cI, n + 1, .inl (nA G1))), (ma, .inl (cI, n + 1, .inl (nA F1)))] H → va_S A sv.heap H locs → lv_has ls 12 [(6, .int (nI far)), (5, .int (nI u)), (4, .ref le), (3, .ref ma), (2, .int (nI n)), (0, .ref yk), (1, .ref ym)] → W pg l ev rm_X5_parted sv mi ag bl mt cd H locs 2 50 Q (F0 mi 35 ls []) := by
          intro Nf
          induction Nf with
          | zero =>
            intro far F1 G1 hfar hF1 hG1 hpb hN
            exact absurd hN (Nat.not_lt_zero _)
          | succ Nf ih_35 =>
            intro far F1 G1 hfar hF1 hG1 hpb hN H locs ls hP hS hl
            refine lv_iload hx hb dX5_parted_35 (lv_at hl 0 rfl) ?_
            refine lv_iconst (v := nI 4) hx hb dX5_parted_37 ci_4 ?_
            refine z_icmp_gt (tgt := 175) hx hb dX5_parted_38 (by decide) (by omega) (by omega) (fun c_38 => ?_) (fun c_38 => ?_)
            · have hend := pb_end hPO hvb hu hpb (Or.inl c_38)
              refine lv_iinc (v := nI u - nI 1) (lv' := [(5, .int (nI u - nI 1)), (6, .int (nI far)), (4, .ref le), (3, .ref ma), (2, .int (nI n)), (0, .ref yk), (1, .ref ym)]) hx hb dX5_parted_175 hl (k := 1) rfl (z_decR _) (by decide) rfl (fun ls hl => ?_)
              refine lv_goto (tgt := 21) hx hb dX5_parted_178 (by decide) ?_
              exact ih_21 u F1 G1 (by omega) (fun j a b => by by_cases e : j = u; exact (by rw [e]; exact hend.1); rw [hF1 j e]; exact hF j (by omega) b) (fun j a b => by by_cases e : j = u; exact (by rw [e]; exact hend.2); rw [hG1 j e]; exact hG j (by omega) b) (by rw [hG1 n (by omega)]; exact hz) (by omega) H locs ls hP hS (lv_sub hl [0, 2, 3, 4, 5, 6] rfl)
            · refine lv_iload hx hb dX5_parted_41 (lv_at hl 1 rfl) ?_
              refine lv_iload hx hb dX5_parted_43 (lv_at hl 0 rfl) ?_
              refine z_iadd hx hb dX5_parted_45 ?_
              refine lv_iload_n hx hb dX5_parted_46 rfl (lv_at hl 4 rfl) ?_
              refine z_icmp_gt (tgt := 175) hx hb dX5_parted_47 (by decide) (by omega) (by omega) (fun c_47 => ?_) (fun c_47 => ?_)
              · have hend := pb_end hPO hvb hu hpb (Or.inr c_47)
                refine lv_iinc (v := nI u - nI 1) (lv' := [(5, .int (nI u - nI 1)), (6, .int (nI far)), (4, .ref le), (3, .ref ma), (2, .int (nI n)), (0, .ref yk), (1, .ref ym)]) hx hb dX5_parted_175 hl (k := 1) rfl (z_decR _) (by decide) rfl (fun ls hl => ?_)
                refine lv_goto (tgt := 21) hx hb dX5_parted_178 (by decide) ?_
                exact ih_21 u F1 G1 (by omega) (fun j a b => by by_cases e : j = u; exact (by rw [e]; exact hend.1); rw [hF1 j e]; exact hF j (by omega) b) (fun j a b => by by_cases e : j = u; exact (by rw [e]; exact hend.2); rw [hG1 j e]; exact hG j (by omega) b) (by rw [hG1 n (by omega)]; exact hz) (by omega) H locs ls hP hS (lv_sub hl [0, 2, 3, 4, 5, 6] rfl)
              · refine lv_iload hx hb dX5_parted_50 (lv_at hl 0 rfl) ?_
                refine lv_iconst (v := nI 1) hx hb dX5_parted_52 ci_1 ?_
                refine z_icmp_ne (tgt := 60) hx hb dX5_parted_53 (by decide) (by omega) (by omega) (fun c_53 => ?_) (fun c_53 => ?_)
                · refine lv_iconst (v := nI 0) hx hb dX5_parted_60 ci_0 ?_
                  refine z_top (y := z1 (av (mtC t n T Lf (-1)) Lf (0) u far)) (z1_0 (fun q => q.elim c_53 (fun ⟨c, hc, _⟩ => absurd hc (Nat.not_lt_zero _)))) ?_
                  refine lv_istore (lv' := [(7, .int (z1 (av (mtC t n T Lf (-1)) Lf (0) u far))), (6, .int (nI far)), (5, .int (nI u)), (4, .ref le), (3, .ref ma), (2, .int (nI n)), (0, .ref yk), (1, .ref ym)]) hx hb dX5_parted_61 hl (by decide) rfl (fun ls hl => ?_)
                  refine lv_aload_n hx hb dX5_parted_63 rfl (lv_at hl 6 rfl) ?_
                  refine lv_astore (lv' := [(8, .ref yk), (7, .int (z1 (av (mtC t n T Lf (-1)) Lf (0) u far))), (6, .int (nI far)), (5, .int (nI u)), (4, .ref le), (3, .ref ma), (2, .int (nI n)), (0, .ref yk), (1, .ref ym)]) hx hb dX5_parted_64 hl (by decide) rfl (fun ls hl => ?_)
                  refine lv_aload hx hb dX5_parted_66 (lv_at hl 0 rfl) ?_
                  refine zq_len hx hb hK hE (fr_old hP0 hS hA2) 0 rfl dX5_parted_68 ?_
                  refine lv_istore (lv' := [(9, .int (nI k)), (8, .ref yk), (7, .int (z1 (av (mtC t n T Lf (-1)) Lf (0) u far))), (6, .int (nI far)), (5, .int (nI u)), (4, .ref le), (3, .ref ma), (2, .int (nI n)), (0, .ref yk), (1, .ref ym)]) hx hb dX5_parted_69 hl (by decide) rfl (fun ls hl => ?_)
                  refine lv_iconst (v := nI 0) hx hb dX5_parted_71 ci_0 ?_
                  refine lv_istore (lv' := [(10, .int (nI 0)), (9, .int (nI k)), (8, .ref yk), (7, .int (z1 (av (mtC t n T Lf (-1)) Lf (0) u far))), (6, .int (nI far)), (5, .int (nI u)), (4, .ref le), (3, .ref ma), (2, .int (nI n)), (0, .ref yk), (1, .ref ym)]) hx hb dX5_parted_72 hl (by decide) rfl (fun ls hl => ?_)
                  have lp_74 : ∀ (Nf : Nat) (i : Nat) (hi : i ≤ k) (hN : k - i < Nf) (H : Heap) (locs : List Loc) (ls : Array Slot), va_P D vwCl [(le, .inl (cI, n + 1, .inl (nA G1))), (ma, .inl (cI, n + 1, .inl (nA F1)))] H → va_S A sv.heap H locs → lv_has ls 12 [(10, .int (nI i)), (9, .int (nI k)), (8, .ref yk), (7, .int (z1 (av (mtC t n T Lf (-1)) Lf (i) u far))), (6, .int (nI far)), (5, .int (nI u)), (4, .ref le), (3, .ref ma), (2, .int (nI n)), (0, .ref yk), (1, .ref ym)] → W pg l ev rm_X5_parted sv mi ag bl mt cd H locs 2 50 Q (F0 mi 74 ls []) := by
                    intro Nf
                    induction Nf with
                    | zero =>
                      intro i hi hN
                      exact absurd hN (Nat.not_lt_zero _)
                    | succ Nf ih_74 =>
                      intro i hi hN H locs ls hP hS hl
                      refine lv_iload hx hb dX5_parted_74 (lv_at hl 0 rfl) ?_
                      refine lv_iload hx hb dX5_parted_76 (lv_at hl 1 rfl) ?_
                      refine z_icmp_ge (tgt := 125) hx hb dX5_parted_78 (by decide) (by omega) (by omega) (fun c_78 => ?_) (fun c_78 => ?_)
                      · refine lv_iload hx hb dX5_parted_125 (lv_at hl 3 rfl) ?_
                        refine z_if_eqP (tgt := 169) hx hb dX5_parted_127 (by decide) (fun c_127 => ?_) (fun c_127 => ?_)
                        · have hik : i = k := by omega
                          have hav : ¬ av (mtC t n T Lf (-1)) Lf k u far := fun q => c_127 (by rw [hik]; exact q)
                          refine lv_iinc (v := nI (far + 1)) (lv' := [(6, .int (nI (far + 1))), (10, .int (nI i)), (9, .int (nI k)), (8, .ref yk), (7, .int (z1 (av (mtC t n T Lf (-1)) Lf (i) u far))), (5, .int (nI u)), (4, .ref le), (3, .ref ma), (2, .int (nI n)), (0, .ref yk), (1, .ref ym)]) hx hb dX5_parted_169 hl (k := 4) rfl (z_inc1 _) (by decide) rfl (fun ls hl => ?_)
                          refine lv_goto (tgt := 35) hx hb dX5_parted_172 (by decide) ?_
                          exact ih_35 (far + 1) F1 G1 ⟨by omega, by omega⟩ (fun j h => by first | exact hF1 j h | (rw [updN_n _ h]; exact hF1 j h)) (fun j h => by first | exact hG1 j h | (rw [updN_n _ h]; exact hG1 j h)) (by first | exact pb_skip hpb (Or.inl hav) (hf24 _ (by omega)) | exact pb_skip hpb (Or.inr (by rw [← hF (u + far) (by omega) (by omega), ← hF1 _ (by omega)]; omega)) (hf24 _ (by omega)) | (rw [updN_s, updN_s]; exact pb_take hpb hfar.1 hav (by rw [hF1 _ (by omega), hF _ (by omega) (by omega)]) c_143)) (by omega) H locs ls hP hS (lv_sub hl [0, 5, 6, 7, 8, 9, 10] rfl)
                        · have hik : i = k := by omega
                          have hav : av (mtC t n T Lf (-1)) Lf k u far := by rw [hik] at c_127; exact c_127
                          have hb1 : F1 (u + far) ≤ 24 := by rw [hF1 _ (by omega), hF _ (by omega) (by omega)]; exact hf24 _ (by omega)
                          have hb2 : F1 u ≤ 99 := pb_b hpb (fun g a b => hf24 _ (by omega))
                          refine lv_aload_n hx hb dX5_parted_130 rfl (lv_at hl 7 rfl) ?_
                          refine lv_iload hx hb dX5_parted_131 (lv_at hl 5 rfl) ?_
                          refine lv_iload hx hb dX5_parted_133 (lv_at hl 4 rfl) ?_
                          refine z_iadd hx hb dX5_parted_135 ?_
                          refine z_ialdN hx hb hK hP 1 0 rfl rfl (by omega) (by omega) dX5_parted_136 ?_
                          refine lv_iconst (v := nI 1) hx hb dX5_parted_137 ci_1 ?_
                          refine z_iadd hx hb dX5_parted_138 ?_
                          refine lv_aload_n hx hb dX5_parted_139 rfl (lv_at hl 7 rfl) ?_
                          refine lv_iload hx hb dX5_parted_140 (lv_at hl 5 rfl) ?_
                          refine z_ialdN hx hb hK hP 1 0 rfl rfl (by omega) (by omega) dX5_parted_142 ?_
                          refine z_icmp_le (tgt := 149) hx hb dX5_parted_143 (by decide) (by omega) (by omega) (fun c_143 => ?_) (fun c_143 => ?_)
                          · refine lv_aload_n hx hb dX5_parted_149 rfl (lv_at hl 7 rfl) ?_
                            refine lv_iload hx hb dX5_parted_150 (lv_at hl 5 rfl) ?_
                            refine lv_aload_n hx hb dX5_parted_152 rfl (lv_at hl 7 rfl) ?_
                            refine lv_iload hx hb dX5_parted_153 (lv_at hl 5 rfl) ?_
                            refine lv_iload hx hb dX5_parted_155 (lv_at hl 4 rfl) ?_
                            refine z_iadd hx hb dX5_parted_157 ?_
                            refine z_ialdN hx hb hK hP 1 0 rfl rfl (by omega) (by omega) dX5_parted_158 ?_
                            refine lv_iconst (v := nI 1) hx hb dX5_parted_159 ci_1 ?_
                            refine z_iadd hx hb dX5_parted_160 ?_
                            refine z_iastN hx hb hK hP hD rfl hS 1 0 rfl rfl (by omega) (by omega) dX5_parted_161 (fun H locs hP hS => ?_)
                            have hP : va_P D vwCl [(le, .inl (cI, n + 1, .inl (nA G1))), (ma, .inl (cI, n + 1, .inl (nA (updN F1 u ((F1 (u + far)) + 1)))))] H := hP
                            refine lv_aload hx hb dX5_parted_162 (lv_at hl 6 rfl) ?_
                            refine lv_iload hx hb dX5_parted_164 (lv_at hl 5 rfl) ?_
                            refine lv_iload hx hb dX5_parted_166 (lv_at hl 4 rfl) ?_
                            refine z_iastN hx hb hK hP hD rfl hS 0 0 rfl rfl (by omega) (by omega) dX5_parted_168 (fun H locs hP hS => ?_)
                            have hP : va_P D vwCl [(le, .inl (cI, n + 1, .inl (nA (updN G1 u far)))), (ma, .inl (cI, n + 1, .inl (nA (updN F1 u ((F1 (u + far)) + 1)))))] H := hP
                            refine lv_iinc (v := nI (far + 1)) (lv' := [(6, .int (nI (far + 1))), (10, .int (nI i)), (9, .int (nI k)), (8, .ref yk), (7, .int (z1 (av (mtC t n T Lf (-1)) Lf (i) u far))), (5, .int (nI u)), (4, .ref le), (3, .ref ma), (2, .int (nI n)), (0, .ref yk), (1, .ref ym)]) hx hb dX5_parted_169 hl (k := 4) rfl (z_inc1 _) (by decide) rfl (fun ls hl => ?_)
                            refine lv_goto (tgt := 35) hx hb dX5_parted_172 (by decide) ?_
                            exact ih_35 (far + 1) (updN F1 u ((F1 (u + far)) + 1)) (updN G1 u far) ⟨by omega, by omega⟩ (fun j h => by first | exact hF1 j h | (rw [updN_n _ h]; exact hF1 j h)) (fun j h => by first | exact hG1 j h | (rw [updN_n _ h]; exact hG1 j h)) (by first | exact pb_skip hpb (Or.inl hav) (hf24 _ (by omega)) | exact pb_skip hpb (Or.inr (by rw [← hF (u + far) (by omega) (by omega), ← hF1 _ (by omega)]; omega)) (hf24 _ (by omega)) | (rw [updN_s, updN_s]; exact pb_take hpb hfar.1 hav (by rw [hF1 _ (by omega), hF _ (by omega) (by omega)]) c_143)) (by omega) H locs ls hP hS (lv_sub hl [0, 5, 6, 7, 8, 9, 10] rfl)
                          · refine lv_goto (tgt := 169) hx hb dX5_parted_146 (by decide) ?_
                            refine lv_iinc (v := nI (far + 1)) (lv' := [(6, .int (nI (far + 1))), (10, .int (nI i)), (9, .int (nI k)), (8, .ref yk), (7, .int (z1 (av (mtC t n T Lf (-1)) Lf (i) u far))), (5, .int (nI u)), (4, .ref le), (3, .ref ma), (2, .int (nI n)), (0, .ref yk), (1, .ref ym)]) hx hb dX5_parted_169 hl (k := 4) rfl (z_inc1 _) (by decide) rfl (fun ls hl => ?_)
                            refine lv_goto (tgt := 35) hx hb dX5_parted_172 (by decide) ?_
                            exact ih_35 (far + 1) F1 G1 ⟨by omega, by omega⟩ (fun j h => by first | exact hF1 j h | (rw [updN_n _ h]; exact hF1 j h)) (fun j h => by first | exact hG1 j h | (rw [updN_n _ h]; exact hG1 j h)) (by first | exact pb_skip hpb (Or.inl hav) (hf24 _ (by omega)) | exact pb_skip hpb (Or.inr (by rw [← hF (u + far) (by omega) (by omega), ← hF1 _ (by omega)]; omega)) (hf24 _ (by omega)) | (rw [updN_s, updN_s]; exact pb_take hpb hfar.1 hav (by rw [hF1 _ (by omega), hF _ (by omega) (by omega)]) c_143)) (by omega) H locs ls hP hS (lv_sub hl [0, 5, 6, 7, 8, 9, 10] rfl)
                      · refine lv_aload hx hb dX5_parted_81 (lv_at hl 2 rfl) ?_
                        refine lv_iload hx hb dX5_parted_83 (lv_at hl 0 rfl) ?_
                        refine zq_ald (r := R i) hx hb hK hE (fr_old hP0 hS hA2) 0 rfl (by omega) (by omega) rfl dX5_parted_85 ?_
                        refine lv_astore (lv' := [(11, .ref (R i)), (10, .int (nI i)), (9, .int (nI k)), (8, .ref yk), (7, .int (z1 (av (mtC t n T Lf (-1)) Lf (i) u far))), (6, .int (nI far)), (5, .int (nI u)), (4, .ref le), (3, .ref ma), (2, .int (nI n)), (0, .ref yk), (1, .ref ym)]) hx hb dX5_parted_86 hl (by decide) rfl (fun ls hl => ?_)
                        refine lv_iload hx hb dX5_parted_88 (lv_at hl 4 rfl) ?_
                        refine z_if_neP (tgt := 112) hx hb dX5_parted_90 (by decide) (fun c_90 => ?_) (fun c_90 => ?_)
                        · refine lv_iconst (v := nI 1) hx hb dX5_parted_112 ci_1 ?_
                          refine lv_goto (tgt := 117) hx hb dX5_parted_113 (by decide) ?_
                          refine z_top (y := z1 (av (mtC t n T Lf (-1)) Lf (i + 1) u far)) (z1_1 (by first | exact av_s c_90 | exact Or.inr ⟨i, by omega, c_98, nI_m1 (by omega), c_109.1, c_109.2⟩)) ?_
                          refine lv_istore (lv' := [(7, .int (z1 (av (mtC t n T Lf (-1)) Lf (i + 1) u far))), (11, .ref (R i)), (10, .int (nI i)), (9, .int (nI k)), (8, .ref yk), (6, .int (nI far)), (5, .int (nI u)), (4, .ref le), (3, .ref ma), (2, .int (nI n)), (0, .ref yk), (1, .ref ym)]) hx hb dX5_parted_117 hl (by decide) rfl (fun ls hl => ?_)
                          refine lv_iinc (v := nI (i + 1)) (lv' := [(10, .int (nI (i + 1))), (7, .int (z1 (av (mtC t n T Lf (-1)) Lf (i + 1) u far))), (11, .ref (R i)), (9, .int (nI k)), (8, .ref yk), (6, .int (nI far)), (5, .int (nI u)), (4, .ref le), (3, .ref ma), (2, .int (nI n)), (0, .ref yk), (1, .ref ym)]) hx hb dX5_parted_119 hl (k := 2) rfl (z_inc1 _) (by decide) rfl (fun ls hl => ?_)
                          refine lv_goto (tgt := 74) hx hb dX5_parted_122 (by decide) ?_
                          exact ih_74 (i + 1) (by omega) (by omega) H locs ls hP hS (lv_sub hl [0, 3, 4, 1, 5, 6, 7, 8, 9, 10, 11] rfl)
                        · have hLi := hL i (by omega)
                          refine lv_aload hx hb dX5_parted_93 (lv_at hl 0 rfl) ?_
                          refine va_alen (v := nI (Lf i)) hx hb hK (rw_get 2 (fr_old hP0 hS hA2) rfl (by omega)) 0 0 rfl rfl rfl dX5_parted_95 ?_
                          refine lv_iload hx hb dX5_parted_96 (lv_at hl 5 rfl) ?_
                          refine z_icmp_ne (tgt := 116) hx hb dX5_parted_98 (by decide) (by omega) (by omega) (fun c_98 => ?_) (fun c_98 => ?_)
                          · refine lv_iconst (v := nI 0) hx hb dX5_parted_116 ci_0 ?_
                            refine z_top (y := z1 (av (mtC t n T Lf (-1)) Lf (i + 1) u far)) (z1_0 (av_n c_90 (fun q => by first | exact c_98 q.1 | exact c_109 ⟨q.2.2.1, q.2.2.2⟩))) ?_
                            refine lv_istore (lv' := [(7, .int (z1 (av (mtC t n T Lf (-1)) Lf (i + 1) u far))), (11, .ref (R i)), (10, .int (nI i)), (9, .int (nI k)), (8, .ref yk), (6, .int (nI far)), (5, .int (nI u)), (4, .ref le), (3, .ref ma), (2, .int (nI n)), (0, .ref yk), (1, .ref ym)]) hx hb dX5_parted_117 hl (by decide) rfl (fun ls hl => ?_)
                            refine lv_iinc (v := nI (i + 1)) (lv' := [(10, .int (nI (i + 1))), (7, .int (z1 (av (mtC t n T Lf (-1)) Lf (i + 1) u far))), (11, .ref (R i)), (9, .int (nI k)), (8, .ref yk), (6, .int (nI far)), (5, .int (nI u)), (4, .ref le), (3, .ref ma), (2, .int (nI n)), (0, .ref yk), (1, .ref ym)]) hx hb dX5_parted_119 hl (k := 2) rfl (z_inc1 _) (by decide) rfl (fun ls hl => ?_)
                            refine lv_goto (tgt := 74) hx hb dX5_parted_122 (by decide) ?_
                            exact ih_74 (i + 1) (by omega) (by omega) H locs ls hP hS (lv_sub hl [0, 3, 4, 1, 5, 6, 7, 8, 9, 10, 11] rfl)
                          · refine lv_aload hx hb dX5_parted_101 (lv_at hl 0 rfl) ?_
                            refine lv_aload_n hx hb dX5_parted_103 rfl (lv_at hl 11 rfl) ?_
                            refine lv_iload hx hb dX5_parted_104 (lv_at hl 6 rfl) ?_
                            refine z_roS (w0 := [(R i, .inl (cI, (Lf i), .inl (fun p => T (i * 4 + p)))), (ym, .inl (cI, n, .inl (nA t)))]) (As := [.ref (R i), .ref ym, .int (nI u)]) (rest := []) ⟨hx, hb, hml, hown, hts⟩ (c_X5_isThere l D cI (R i) ym (fun p => T (i * 4 + p)) (Lf i) t n u (by have := hL i (by omega); omega) (by first | assumption | omega) (by first | assumption | omega)) (va_cwS 3 hts gX5_parted_X5_isThere rfl rfl rfl hd_X5_isThere ⟨Nat.le_of_ble_eq_true rfl, Nat.le_of_ble_eq_true rfl⟩) ⟨hK, hE⟩ (fr_cons ((rw_get 2 (fr_old hP0 hS hA2) rfl (by omega)) 0 _ rfl) (fr_cons ((fr_old hP0 hS hA2) 1 _ rfl) (va_P_nil _ _ _))) rfl hl.1 rfl (Nat.le_of_ble_eq_true rfl) dX5_parted_106 (Nat.le_of_ble_eq_true rfl) (Nat.le_of_ble_eq_true rfl) ?_
                            refine z_if_eqP (tgt := 116) hx hb dX5_parted_109 (by decide) (fun c_109 => ?_) (fun c_109 => ?_)
                            · refine lv_iconst (v := nI 0) hx hb dX5_parted_116 ci_0 ?_
                              refine z_top (y := z1 (av (mtC t n T Lf (-1)) Lf (i + 1) u far)) (z1_0 (av_n c_90 (fun q => by first | exact c_98 q.1 | exact c_109 ⟨q.2.2.1, q.2.2.2⟩))) ?_
                              refine lv_istore (lv' := [(7, .int (z1 (av (mtC t n T Lf (-1)) Lf (i + 1) u far))), (11, .ref (R i)), (10, .int (nI i)), (9, .int (nI k)), (8, .ref yk), (6, .int (nI far)), (5, .int (nI u)), (4, .ref le), (3, .ref ma), (2, .int (nI n)), (0, .ref yk), (1, .ref ym)]) hx hb dX5_parted_117 hl (by decide) rfl (fun ls hl => ?_)
                              refine lv_iinc (v := nI (i + 1)) (lv' := [(10, .int (nI (i + 1))), (7, .int (z1 (av (mtC t n T Lf (-1)) Lf (i + 1) u far))), (11, .ref (R i)), (9, .int (nI k)), (8, .ref yk), (6, .int (nI far)), (5, .int (nI u)), (4, .ref le), (3, .ref ma), (2, .int (nI n)), (0, .ref yk), (1, .ref ym)]) hx hb dX5_parted_119 hl (k := 2) rfl (z_inc1 _) (by decide) rfl (fun ls hl => ?_)
                              refine lv_goto (tgt := 74) hx hb dX5_parted_122 (by decide) ?_
                              exact ih_74 (i + 1) (by omega) (by omega) H locs ls hP hS (lv_sub hl [0, 3, 4, 1, 5, 6, 7, 8, 9, 10, 11] rfl)
                            · refine lv_iconst (v := nI 1) hx hb dX5_parted_112 ci_1 ?_
                              refine lv_goto (tgt := 117) hx hb dX5_parted_113 (by decide) ?_
                              refine z_top (y := z1 (av (mtC t n T Lf (-1)) Lf (i + 1) u far)) (z1_1 (by first | exact av_s c_90 | exact Or.inr ⟨i, by omega, c_98, nI_m1 (by omega), c_109.1, c_109.2⟩)) ?_
                              refine lv_istore (lv' := [(7, .int (z1 (av (mtC t n T Lf (-1)) Lf (i + 1) u far))), (11, .ref (R i)), (10, .int (nI i)), (9, .int (nI k)), (8, .ref yk), (6, .int (nI far)), (5, .int (nI u)), (4, .ref le), (3, .ref ma), (2, .int (nI n)), (0, .ref yk), (1, .ref ym)]) hx hb dX5_parted_117 hl (by decide) rfl (fun ls hl => ?_)
                              refine lv_iinc (v := nI (i + 1)) (lv' := [(10, .int (nI (i + 1))), (7, .int (z1 (av (mtC t n T Lf (-1)) Lf (i + 1) u far))), (11, .ref (R i)), (9, .int (nI k)), (8, .ref yk), (6, .int (nI far)), (5, .int (nI u)), (4, .ref le), (3, .ref ma), (2, .int (nI n)), (0, .ref yk), (1, .ref ym)]) hx hb dX5_parted_119 hl (k := 2) rfl (z_inc1 _) (by decide) rfl (fun ls hl => ?_)
                              refine lv_goto (tgt := 74) hx hb dX5_parted_122 (by decide) ?_
                              exact ih_74 (i + 1) (by omega) (by omega) H locs ls hP hS (lv_sub hl [0, 3, 4, 1, 5, 6, 7, 8, 9, 10, 11] rfl)
                  exact lp_74 ((k - 0) + 1) 0 (Nat.zero_le _) (Nat.lt_succ_self _) H locs ls hP hS hl
                · refine lv_iconst (v := nI 1) hx hb dX5_parted_56 ci_1 ?_
                  refine lv_goto (tgt := 61) hx hb dX5_parted_57 (by decide) ?_
                  refine z_top (y := z1 (av (mtC t n T Lf (-1)) Lf (0) u far)) (z1_1 (Or.inl c_53)) ?_
                  refine lv_istore (lv' := [(7, .int (z1 (av (mtC t n T Lf (-1)) Lf (0) u far))), (6, .int (nI far)), (5, .int (nI u)), (4, .ref le), (3, .ref ma), (2, .int (nI n)), (0, .ref yk), (1, .ref ym)]) hx hb dX5_parted_61 hl (by decide) rfl (fun ls hl => ?_)
                  refine lv_aload_n hx hb dX5_parted_63 rfl (lv_at hl 6 rfl) ?_
                  refine lv_astore (lv' := [(8, .ref yk), (7, .int (z1 (av (mtC t n T Lf (-1)) Lf (0) u far))), (6, .int (nI far)), (5, .int (nI u)), (4, .ref le), (3, .ref ma), (2, .int (nI n)), (0, .ref yk), (1, .ref ym)]) hx hb dX5_parted_64 hl (by decide) rfl (fun ls hl => ?_)
                  refine lv_aload hx hb dX5_parted_66 (lv_at hl 0 rfl) ?_
                  refine zq_len hx hb hK hE (fr_old hP0 hS hA2) 0 rfl dX5_parted_68 ?_
                  refine lv_istore (lv' := [(9, .int (nI k)), (8, .ref yk), (7, .int (z1 (av (mtC t n T Lf (-1)) Lf (0) u far))), (6, .int (nI far)), (5, .int (nI u)), (4, .ref le), (3, .ref ma), (2, .int (nI n)), (0, .ref yk), (1, .ref ym)]) hx hb dX5_parted_69 hl (by decide) rfl (fun ls hl => ?_)
                  refine lv_iconst (v := nI 0) hx hb dX5_parted_71 ci_0 ?_
                  refine lv_istore (lv' := [(10, .int (nI 0)), (9, .int (nI k)), (8, .ref yk), (7, .int (z1 (av (mtC t n T Lf (-1)) Lf (0) u far))), (6, .int (nI far)), (5, .int (nI u)), (4, .ref le), (3, .ref ma), (2, .int (nI n)), (0, .ref yk), (1, .ref ym)]) hx hb dX5_parted_72 hl (by decide) rfl (fun ls hl => ?_)
                  have lp_74 : ∀ (Nf : Nat) (i : Nat) (hi : i ≤ k) (hN : k - i < Nf) (H : Heap) (locs : List Loc) (ls : Array Slot), va_P D vwCl [(le, .inl (cI, n + 1, .inl (nA G1))), (ma, .inl (cI, n + 1, .inl (nA F1)))] H → va_S A sv.heap H locs → lv_has ls 12 [(10, .int (nI i)), (9, .int (nI k)), (8, .ref yk), (7, .int (z1 (av (mtC t n T Lf (-1)) Lf (i) u far))), (6, .int (nI far)), (5, .int (nI u)), (4, .ref le), (3, .ref ma), (2, .int (nI n)), (0, .ref yk), (1, .ref ym)] → W pg l ev rm_X5_parted sv mi ag bl mt cd H locs 2 50 Q (F0 mi 74 ls []) := by
                    intro Nf
                    induction Nf with
                    | zero =>
                      intro i hi hN
                      exact absurd hN (Nat.not_lt_zero _)
                    | succ Nf ih_74 =>
                      intro i hi hN H locs ls hP hS hl
                      refine lv_iload hx hb dX5_parted_74 (lv_at hl 0 rfl) ?_
                      refine lv_iload hx hb dX5_parted_76 (lv_at hl 1 rfl) ?_
                      refine z_icmp_ge (tgt := 125) hx hb dX5_parted_78 (by decide) (by omega) (by omega) (fun c_78 => ?_) (fun c_78 => ?_)
                      · refine lv_iload hx hb dX5_parted_125 (lv_at hl 3 rfl) ?_
                        refine z_if_eqP (tgt := 169) hx hb dX5_parted_127 (by decide) (fun c_127 => ?_) (fun c_127 => ?_)
                        · have hik : i = k := by omega
                          have hav : ¬ av (mtC t n T Lf (-1)) Lf k u far := fun q => c_127 (by rw [hik]; exact q)
                          refine lv_iinc (v := nI (far + 1)) (lv' := [(6, .int (nI (far + 1))), (10, .int (nI i)), (9, .int (nI k)), (8, .ref yk), (7, .int (z1 (av (mtC t n T Lf (-1)) Lf (i) u far))), (5, .int (nI u)), (4, .ref le), (3, .ref ma), (2, .int (nI n)), (0, .ref yk), (1, .ref ym)]) hx hb dX5_parted_169 hl (k := 4) rfl (z_inc1 _) (by decide) rfl (fun ls hl => ?_)
                          refine lv_goto (tgt := 35) hx hb dX5_parted_172 (by decide) ?_
                          exact ih_35 (far + 1) F1 G1 ⟨by omega, by omega⟩ (fun j h => by first | exact hF1 j h | (rw [updN_n _ h]; exact hF1 j h)) (fun j h => by first | exact hG1 j h | (rw [updN_n _ h]; exact hG1 j h)) (by first | exact pb_skip hpb (Or.inl hav) (hf24 _ (by omega)) | exact pb_skip hpb (Or.inr (by rw [← hF (u + far) (by omega) (by omega), ← hF1 _ (by omega)]; omega)) (hf24 _ (by omega)) | (rw [updN_s, updN_s]; exact pb_take hpb hfar.1 hav (by rw [hF1 _ (by omega), hF _ (by omega) (by omega)]) c_143)) (by omega) H locs ls hP hS (lv_sub hl [0, 5, 6, 7, 8, 9, 10] rfl)
                        · have hik : i = k := by omega
                          have hav : av (mtC t n T Lf (-1)) Lf k u far := by rw [hik] at c_127; exact c_127
                          have hb1 : F1 (u + far) ≤ 24 := by rw [hF1 _ (by omega), hF _ (by omega) (by omega)]; exact hf24 _ (by omega)
                          have hb2 : F1 u ≤ 99 := pb_b hpb (fun g a b => hf24 _ (by omega))
                          refine lv_aload_n hx hb dX5_parted_130 rfl (lv_at hl 7 rfl) ?_
                          refine lv_iload hx hb dX5_parted_131 (lv_at hl 5 rfl) ?_
                          refine lv_iload hx hb dX5_parted_133 (lv_at hl 4 rfl) ?_
                          refine z_iadd hx hb dX5_parted_135 ?_
                          refine z_ialdN hx hb hK hP 1 0 rfl rfl (by omega) (by omega) dX5_parted_136 ?_
                          refine lv_iconst (v := nI 1) hx hb dX5_parted_137 ci_1 ?_
                          refine z_iadd hx hb dX5_parted_138 ?_
                          refine lv_aload_n hx hb dX5_parted_139 rfl (lv_at hl 7 rfl) ?_
                          refine lv_iload hx hb dX5_parted_140 (lv_at hl 5 rfl) ?_
                          refine z_ialdN hx hb hK hP 1 0 rfl rfl (by omega) (by omega) dX5_parted_142 ?_
                          refine z_icmp_le (tgt := 149) hx hb dX5_parted_143 (by decide) (by omega) (by omega) (fun c_143 => ?_) (fun c_143 => ?_)
                          · refine lv_aload_n hx hb dX5_parted_149 rfl (lv_at hl 7 rfl) ?_
                            refine lv_iload hx hb dX5_parted_150 (lv_at hl 5 rfl) ?_
                            refine lv_aload_n hx hb dX5_parted_152 rfl (lv_at hl 7 rfl) ?_
                            refine lv_iload hx hb dX5_parted_153 (lv_at hl 5 rfl) ?_
                            refine lv_iload hx hb dX5_parted_155 (lv_at hl 4 rfl) ?_
                            refine z_iadd hx hb dX5_parted_157 ?_
                            refine z_ialdN hx hb hK hP 1 0 rfl rfl (by omega) (by omega) dX5_parted_158 ?_
                            refine lv_iconst (v := nI 1) hx hb dX5_parted_159 ci_1 ?_
                            refine z_iadd hx hb dX5_parted_160 ?_
                            refine z_iastN hx hb hK hP hD rfl hS 1 0 rfl rfl (by omega) (by omega) dX5_parted_161 (fun H locs hP hS => ?_)
                            have hP : va_P D vwCl [(le, .inl (cI, n + 1, .inl (nA G1))), (ma, .inl (cI, n + 1, .inl (nA (updN F1 u ((F1 (u + far)) + 1)))))] H := hP
                            refine lv_aload hx hb dX5_parted_162 (lv_at hl 6 rfl) ?_
                            refine lv_iload hx hb dX5_parted_164 (lv_at hl 5 rfl) ?_
                            refine lv_iload hx hb dX5_parted_166 (lv_at hl 4 rfl) ?_
                            refine z_iastN hx hb hK hP hD rfl hS 0 0 rfl rfl (by omega) (by omega) dX5_parted_168 (fun H locs hP hS => ?_)
                            have hP : va_P D vwCl [(le, .inl (cI, n + 1, .inl (nA (updN G1 u far)))), (ma, .inl (cI, n + 1, .inl (nA (updN F1 u ((F1 (u + far)) + 1)))))] H := hP
                            refine lv_iinc (v := nI (far + 1)) (lv' := [(6, .int (nI (far + 1))), (10, .int (nI i)), (9, .int (nI k)), (8, .ref yk), (7, .int (z1 (av (mtC t n T Lf (-1)) Lf (i) u far))), (5, .int (nI u)), (4, .ref le), (3, .ref ma), (2, .int (nI n)), (0, .ref yk), (1, .ref ym)]) hx hb dX5_parted_169 hl (k := 4) rfl (z_inc1 _) (by decide) rfl (fun ls hl => ?_)
                            refine lv_goto (tgt := 35) hx hb dX5_parted_172 (by decide) ?_
                            exact ih_35 (far + 1) (updN F1 u ((F1 (u + far)) + 1)) (updN G1 u far) ⟨by omega, by omega⟩ (fun j h => by first | exact hF1 j h | (rw [updN_n _ h]; exact hF1 j h)) (fun j h => by first | exact hG1 j h | (rw [updN_n _ h]; exact hG1 j h)) (by first | exact pb_skip hpb (Or.inl hav) (hf24 _ (by omega)) | exact pb_skip hpb (Or.inr (by rw [← hF (u + far) (by omega) (by omega), ← hF1 _ (by omega)]; omega)) (hf24 _ (by omega)) | (rw [updN_s, updN_s]; exact pb_take hpb hfar.1 hav (by rw [hF1 _ (by omega), hF _ (by omega) (by omega)]) c_143)) (by omega) H locs ls hP hS (lv_sub hl [0, 5, 6, 7, 8, 9, 10] rfl)
                          · refine lv_goto (tgt := 169) hx hb dX5_parted_146 (by decide) ?_
                            refine lv_iinc (v := nI (far + 1)) (lv' := [(6, .int (nI (far + 1))), (10, .int (nI i)), (9, .int (nI k)), (8, .ref yk), (7, .int (z1 (av (mtC t n T Lf (-1)) Lf (i) u far))), (5, .int (nI u)), (4, .ref le), (3, .ref ma), (2, .int (nI n)), (0, .ref yk), (1, .ref ym)]) hx hb dX5_parted_169 hl (k := 4) rfl (z_inc1 _) (by decide) rfl (fun ls hl => ?_)
                            refine lv_goto (tgt := 35) hx hb dX5_parted_172 (by decide) ?_
                            exact ih_35 (far + 1) F1 G1 ⟨by omega, by omega⟩ (fun j h => by first | exact hF1 j h | (rw [updN_n _ h]; exact hF1 j h)) (fun j h => by first | exact hG1 j h | (rw [updN_n _ h]; exact hG1 j h)) (by first | exact pb_skip hpb (Or.inl hav) (hf24 _ (by omega)) | exact pb_skip hpb (Or.inr (by rw [← hF (u + far) (by omega) (by omega), ← hF1 _ (by omega)]; omega)) (hf24 _ (by omega)) | (rw [updN_s, updN_s]; exact pb_take hpb hfar.1 hav (by rw [hF1 _ (by omega), hF _ (by omega) (by omega)]) c_143)) (by omega) H locs ls hP hS (lv_sub hl [0, 5, 6, 7, 8, 9, 10] rfl)
                      · refine lv_aload hx hb dX5_parted_81 (lv_at hl 2 rfl) ?_
                        refine lv_iload hx hb dX5_parted_83 (lv_at hl 0 rfl) ?_
                        refine zq_ald (r := R i) hx hb hK hE (fr_old hP0 hS hA2) 0 rfl (by omega) (by omega) rfl dX5_parted_85 ?_
                        refine lv_astore (lv' := [(11, .ref (R i)), (10, .int (nI i)), (9, .int (nI k)), (8, .ref yk), (7, .int (z1 (av (mtC t n T Lf (-1)) Lf (i) u far))), (6, .int (nI far)), (5, .int (nI u)), (4, .ref le), (3, .ref ma), (2, .int (nI n)), (0, .ref yk), (1, .ref ym)]) hx hb dX5_parted_86 hl (by decide) rfl (fun ls hl => ?_)
                        refine lv_iload hx hb dX5_parted_88 (lv_at hl 4 rfl) ?_
                        refine z_if_neP (tgt := 112) hx hb dX5_parted_90 (by decide) (fun c_90 => ?_) (fun c_90 => ?_)
                        · refine lv_iconst (v := nI 1) hx hb dX5_parted_112 ci_1 ?_
                          refine lv_goto (tgt := 117) hx hb dX5_parted_113 (by decide) ?_
                          refine z_top (y := z1 (av (mtC t n T Lf (-1)) Lf (i + 1) u far)) (z1_1 (by first | exact av_s c_90 | exact Or.inr ⟨i, by omega, c_98, nI_m1 (by omega), c_109.1, c_109.2⟩)) ?_
                          refine lv_istore (lv' := [(7, .int (z1 (av (mtC t n T Lf (-1)) Lf (i + 1) u far))), (11, .ref (R i)), (10, .int (nI i)), (9, .int (nI k)), (8, .ref yk), (6, .int (nI far)), (5, .int (nI u)), (4, .ref le), (3, .ref ma), (2, .int (nI n)), (0, .ref yk), (1, .ref ym)]) hx hb dX5_parted_117 hl (by decide) rfl (fun ls hl => ?_)
                          refine lv_iinc (v := nI (i + 1)) (lv' := [(10, .int (nI (i + 1))), (7, .int (z1 (av (mtC t n T Lf (-1)) Lf (i + 1) u far))), (11, .ref (R i)), (9, .int (nI k)), (8, .ref yk), (6, .int (nI far)), (5, .int (nI u)), (4, .ref le), (3, .ref ma), (2, .int (nI n)), (0, .ref yk), (1, .ref ym)]) hx hb dX5_parted_119 hl (k := 2) rfl (z_inc1 _) (by decide) rfl (fun ls hl => ?_)
                          refine lv_goto (tgt := 74) hx hb dX5_parted_122 (by decide) ?_
                          exact ih_74 (i + 1) (by omega) (by omega) H locs ls hP hS (lv_sub hl [0, 3, 4, 1, 5, 6, 7, 8, 9, 10, 11] rfl)
                        · have hLi := hL i (by omega)
                          refine lv_aload hx hb dX5_parted_93 (lv_at hl 0 rfl) ?_
                          refine va_alen (v := nI (Lf i)) hx hb hK (rw_get 2 (fr_old hP0 hS hA2) rfl (by omega)) 0 0 rfl rfl rfl dX5_parted_95 ?_
                          refine lv_iload hx hb dX5_parted_96 (lv_at hl 5 rfl) ?_
                          refine z_icmp_ne (tgt := 116) hx hb dX5_parted_98 (by decide) (by omega) (by omega) (fun c_98 => ?_) (fun c_98 => ?_)
                          · refine lv_iconst (v := nI 0) hx hb dX5_parted_116 ci_0 ?_
                            refine z_top (y := z1 (av (mtC t n T Lf (-1)) Lf (i + 1) u far)) (z1_0 (av_n c_90 (fun q => by first | exact c_98 q.1 | exact c_109 ⟨q.2.2.1, q.2.2.2⟩))) ?_
                            refine lv_istore (lv' := [(7, .int (z1 (av (mtC t n T Lf (-1)) Lf (i + 1) u far))), (11, .ref (R i)), (10, .int (nI i)), (9, .int (nI k)), (8, .ref yk), (6, .int (nI far)), (5, .int (nI u)), (4, .ref le), (3, .ref ma), (2, .int (nI n)), (0, .ref yk), (1, .ref ym)]) hx hb dX5_parted_117 hl (by decide) rfl (fun ls hl => ?_)
                            refine lv_iinc (v := nI (i + 1)) (lv' := [(10, .int (nI (i + 1))), (7, .int (z1 (av (mtC t n T Lf (-1)) Lf (i + 1) u far))), (11, .ref (R i)), (9, .int (nI k)), (8, .ref yk), (6, .int (nI far)), (5, .int (nI u)), (4, .ref le), (3, .ref ma), (2, .int (nI n)), (0, .ref yk), (1, .ref ym)]) hx hb dX5_parted_119 hl (k := 2) rfl (z_inc1 _) (by decide) rfl (fun ls hl => ?_)
                            refine lv_goto (tgt := 74) hx hb dX5_parted_122 (by decide) ?_
                            exact ih_74 (i + 1) (by omega) (by omega) H locs ls hP hS (lv_sub hl [0, 3, 4, 1, 5, 6, 7, 8, 9, 10, 11] rfl)
                          · refine lv_aload hx hb dX5_parted_101 (lv_at hl 0 rfl) ?_
                            refine lv_aload_n hx hb dX5_parted_103 rfl (lv_at hl 11 rfl) ?_
                            refine lv_iload hx hb dX5_parted_104 (lv_at hl 6 rfl) ?_
                            refine z_roS (w0 := [(R i, .inl (cI, (Lf i), .inl (fun p => T (i * 4 + p)))), (ym, .inl (cI, n, .inl (nA t)))]) (As := [.ref (R i), .ref ym, .int (nI u)]) (rest := []) ⟨hx, hb, hml, hown, hts⟩ (c_X5_isThere l D cI (R i) ym (fun p => T (i * 4 + p)) (Lf i) t n u (by have := hL i (by omega); omega) (by first | assumption | omega) (by first | assumption | omega)) (va_cwS 3 hts gX5_parted_X5_isThere rfl rfl rfl hd_X5_isThere ⟨Nat.le_of_ble_eq_true rfl, Nat.le_of_ble_eq_true rfl⟩) ⟨hK, hE⟩ (fr_cons ((rw_get 2 (fr_old hP0 hS hA2) rfl (by omega)) 0 _ rfl) (fr_cons ((fr_old hP0 hS hA2) 1 _ rfl) (va_P_nil _ _ _))) rfl hl.1 rfl (Nat.le_of_ble_eq_true rfl) dX5_parted_106 (Nat.le_of_ble_eq_true rfl) (Nat.le_of_ble_eq_true rfl) ?_
                            refine z_if_eqP (tgt := 116) hx hb dX5_parted_109 (by decide) (fun c_109 => ?_) (fun c_109 => ?_)
                            · refine lv_iconst (v := nI 0) hx hb dX5_parted_116 ci_0 ?_
                              refine z_top (y := z1 (av (mtC t n T Lf (-1)) Lf (i + 1) u far)) (z1_0 (av_n c_90 (fun q => by first | exact c_98 q.1 | exact c_109 ⟨q.2.2.1, q.2.2.2⟩))) ?_
                              refine lv_istore (lv' := [(7, .int (z1 (av (mtC t n T Lf (-1)) Lf (i + 1) u far))), (11, .ref (R i)), (10, .int (nI i)), (9, .int (nI k)), (8, .ref yk), (6, .int (nI far)), (5, .int (nI u)), (4, .ref le), (3, .ref ma), (2, .int (nI n)), (0, .ref yk), (1, .ref ym)]) hx hb dX5_parted_117 hl (by decide) rfl (fun ls hl => ?_)
                              refine lv_iinc (v := nI (i + 1)) (lv' := [(10, .int (nI (i + 1))), (7, .int (z1 (av (mtC t n T Lf (-1)) Lf (i + 1) u far))), (11, .ref (R i)), (9, .int (nI k)), (8, .ref yk), (6, .int (nI far)), (5, .int (nI u)), (4, .ref le), (3, .ref ma), (2, .int (nI n)), (0, .ref yk), (1, .ref ym)]) hx hb dX5_parted_119 hl (k := 2) rfl (z_inc1 _) (by decide) rfl (fun ls hl => ?_)
                              refine lv_goto (tgt := 74) hx hb dX5_parted_122 (by decide) ?_
                              exact ih_74 (i + 1) (by omega) (by omega) H locs ls hP hS (lv_sub hl [0, 3, 4, 1, 5, 6, 7, 8, 9, 10, 11] rfl)
                            · refine lv_iconst (v := nI 1) hx hb dX5_parted_112 ci_1 ?_
                              refine lv_goto (tgt := 117) hx hb dX5_parted_113 (by decide) ?_
                              refine z_top (y := z1 (av (mtC t n T Lf (-1)) Lf (i + 1) u far)) (z1_1 (by first | exact av_s c_90 | exact Or.inr ⟨i, by omega, c_98, nI_m1 (by omega), c_109.1, c_109.2⟩)) ?_
                              refine lv_istore (lv' := [(7, .int (z1 (av (mtC t n T Lf (-1)) Lf (i + 1) u far))), (11, .ref (R i)), (10, .int (nI i)), (9, .int (nI k)), (8, .ref yk), (6, .int (nI far)), (5, .int (nI u)), (4, .ref le), (3, .ref ma), (2, .int (nI n)), (0, .ref yk), (1, .ref ym)]) hx hb dX5_parted_117 hl (by decide) rfl (fun ls hl => ?_)
                              refine lv_iinc (v := nI (i + 1)) (lv' := [(10, .int (nI (i + 1))), (7, .int (z1 (av (mtC t n T Lf (-1)) Lf (i + 1) u far))), (11, .ref (R i)), (9, .int (nI k)), (8, .ref yk), (6, .int (nI far)), (5, .int (nI u)), (4, .ref le), (3, .ref ma), (2, .int (nI n)), (0, .ref yk), (1, .ref ym)]) hx hb dX5_parted_119 hl (k := 2) rfl (z_inc1 _) (by decide) rfl (fun ls hl => ?_)
                              refine lv_goto (tgt := 74) hx hb dX5_parted_122 (by decide) ?_
                              exact ih_74 (i + 1) (by omega) (by omega) H locs ls hP hS (lv_sub hl [0, 3, 4, 1, 5, 6, 7, 8, 9, 10, 11] rfl)
                  exact lp_74 ((k - 0) + 1) 0 (Nat.zero_le _) (Nat.lt_succ_self _) H locs ls hP hS hl
        exact lp_35 ((5 - 1) + 1) 1 (updN F u 99) G (⟨Nat.le_refl _, by omega⟩) (fun j h => updN_n _ h) (fun _ _ => rfl) (Or.inl ⟨rfl, updN_s _ _ _⟩) (Nat.lt_succ_self _) H locs ls hP hS hl
  exact lp_21 ((n) + 1) n (fun _ => 0) (fun _ => 0) (Nat.le_refl _) (fun j a b => by rw [show j = n by omega, hpo.1]) (fun j a b => by omega) rfl (Nat.lt_succ_self _) H locs ls hP hS hl
