theorem dfX0 : ∀ j, j < 3 → defaultValue (tyX0 j) = vp_V [.null, .null, .int (nI 0)] j := by
  intro j hj
  match j, hj with
  | 0, _ => rfl
  | 1, _ => rfl
  | 2, _ => rfl
theorem dfX1 : ∀ j, j < 2 → defaultValue (tyX1 j) = vp_V [.null, .int (nI 0)] j := by
  intro j hj
  match j, hj with
  | 0, _ => rfl
  | 1, _ => rfl
theorem dfX2 : ∀ j, j < 5 → defaultValue (tyX2 j) = vp_V [.null, .null, .null, .null, .int (nI 0)] j := by
  intro j hj
  match j, hj with
  | 0, _ => rfl
  | 1, _ => rfl
  | 2, _ => rfl
  | 3, _ => rfl
  | 4, _ => rfl
theorem dfX3 : ∀ j, j < 4 → defaultValue (tyX3 j) = vp_V [.int (nI 0), .int (nI 0), .int (nI 0), .int (nI 0)] j := by
  intro j hj
  match j, hj with
  | 0, _ => rfl
  | 1, _ => rfl
  | 2, _ => rfl
  | 3, _ => rfl
theorem dfX4 : ∀ j, j < 10 → defaultValue (tyX4 j) = vp_V [.null, .null, .null, .null, .null, .int (nI 0), .int (nI 0), .int (nI 0), .int (nI 0), .int (nI 0)] j := by
  intro j hj
  match j, hj with
  | 0, _ => rfl
  | 1, _ => rfl
  | 2, _ => rfl
  | 3, _ => rfl
  | 4, _ => rfl
  | 5, _ => rfl
  | 6, _ => rfl
  | 7, _ => rfl
  | 8, _ => rfl
  | 9, _ => rfl
theorem dfX5 : ∀ j, j < 7 → defaultValue (tyX5 j) = vp_V [.null, .null, .int (nI 0), .int (nI 0), .int (nI 0), .int (nI 0), .int (nI 0)] j := by
  intro j hj
  match j, hj with
  | 0, _ => rfl
  | 1, _ => rfl
  | 2, _ => rfl
  | 3, _ => rfl
  | 4, _ => rfl
  | 5, _ => rfl
  | 6, _ => rfl
abbrev rm_X0_init : Room := { frames := 1, cells := 2, slots := 40, locals := 12 }
set_option maxHeartbeats 4000000 in
set_option maxRecDepth 100000 in
theorem c_X0_init (l : Launch) (D : va_G) (cI : ClassId) (b0 sz : Nat) : MA l yX0_init wsX0_init rm_X0_init D cI [(b0, .inr (0, [.null, .null, .int (nI 0)]))] [.ref b0] sz (fun (v9 : Option Value) (u9 : Nat × Nat) => v9 = none) (fun (u9 : Nat × Nat) => [(b0, .inr (0, [.ref u9.1, .ref u9.2, .int (nI 0)])), (u9.1, .inl (cI, 32, .inl (fun _ => 0))), (u9.2, .inl (cI, 8, .inl (nA (fun _ => 0))))]) 2 40 := by
  refine ma_of (C := RX0) (cc := cX0_init) (maxL := 1) (ret := none) rfl (by decide) rfl (Nat.le_of_ble_eq_true rfl) ?_
  intro pg ev sv mi ag bl mt cd ls Q A hA hQ hx hb hr hlocks hml hts hown hin hK hE hD H locs hP hS hl
  have hP : va_P D vwCl [(b0, .inr (0, [.null, .null, .int (nI 0)]))] H := hP
  have hD : va_D A [(b0, .inr (0, [.null, .null, .int (nI 0)]))] := hD
  have hl : lv_has ls 1 [(0, .ref b0)] := hl
  have hin : mt.name = "<init>" := hin
  refine lv_aload_n hx hb dX0_init_0 rfl (lv_at hl 0 rfl) ?_
  refine W.objInit hx hb hown (hts (.methodLink RX0 3 objectInit) (by decide +kernel)) (hts (.instanceMethod objectInit) (by decide +kernel)) (hts _ (List.mem_cons_of_mem _ (List.mem_append_left _ (List.mem_of_getElem? (i := 2) rfl)))) rfl (by rw [hml]; exact hl.1) rfl dX0_init_1 (Nat.le_of_ble_eq_true rfl) (Nat.le_of_ble_eq_true rfl) ?_
  refine W.eq (g2 := F0 mi 4 ls []) rfl ?_
  refine lv_aload_n hx hb dX0_init_4 rfl (lv_at hl 0 rfl) ?_
  refine z_bipush (n := 32) hx hb rfl (by decide) dX0_init_5 ?_
  refine z_newa hx hb (hts (.arrayClass .int) (by decide +kernel)) hK hP hD hS hA (by decide) (Nat.le_of_ble_eq_true rfl) (Nat.le_of_ble_eq_true rfl) dX0_init_7 (fun b1 H hP hD hS => ?_)
  have hP : va_P D vwCl [(b0, .inr (0, [.null, .null, .int (nI 0)])), (b1, .inl (cI, 32, .inl (fun _ => 0)))] H := hP
  have hD : va_D A [(b0, .inr (0, [.null, .null, .int (nI 0)])), (b1, .inl (cI, 32, .inl (fun _ => 0)))] := hD
  refine va_putF (ty := tyX0 0) hx hb hts (by decide +kernel) tyX0 tyX0_ok nmX0 hown hK hP hD hS 0 rfl rfl 0 (by decide) (hts (.fieldLink RX0 9 "TelegraphDesk$CodeBook" "types" "[I") (by decide +kernel)) (fun _ h9 => h9) rfl hin rfl (tyX0_ok 0 (by decide)) rfl rfl (Nat.le_of_ble_eq_true rfl) dX0_init_9 (fun H locs hP hD hS => ?_)
  have hP : va_P D vwCl [(b0, .inr (0, [.ref b1, .null, .int (nI 0)])), (b1, .inl (cI, 32, .inl (fun _ => 0)))] H := hP
  have hD : va_D A [(b0, .inr (0, [.ref b1, .null, .int (nI 0)])), (b1, .inl (cI, 32, .inl (fun _ => 0)))] := hD
  refine lv_aload_n hx hb dX0_init_12 rfl (lv_at hl 0 rfl) ?_
  refine z_bipush (n := 8) hx hb rfl (by decide) dX0_init_13 ?_
  refine z_newaN hx hb (hts (.arrayClass .int) (by decide +kernel)) hK hP hD hS hA (by decide) (Nat.le_of_ble_eq_true rfl) (Nat.le_of_ble_eq_true rfl) dX0_init_15 (fun b2 H hP hD hS => ?_)
  have hP : va_P D vwCl [(b0, .inr (0, [.ref b1, .null, .int (nI 0)])), (b1, .inl (cI, 32, .inl (fun _ => 0))), (b2, .inl (cI, 8, .inl (nA (fun _ => 0))))] H := hP
  have hD : va_D A [(b0, .inr (0, [.ref b1, .null, .int (nI 0)])), (b1, .inl (cI, 32, .inl (fun _ => 0))), (b2, .inl (cI, 8, .inl (nA (fun _ => 0))))] := hD
  refine va_putF (ty := tyX0 1) hx hb hts (by decide +kernel) tyX0 tyX0_ok nmX0 hown hK hP hD hS 0 rfl rfl 1 (by decide) (hts (.fieldLink RX0 15 "TelegraphDesk$CodeBook" "lengths" "[I") (by decide +kernel)) (fun _ h9 => h9) rfl hin rfl (tyX0_ok 1 (by decide)) rfl rfl (Nat.le_of_ble_eq_true rfl) dX0_init_17 (fun H locs hP hD hS => ?_)
  have hP : va_P D vwCl [(b0, .inr (0, [.ref b1, .ref b2, .int (nI 0)])), (b1, .inl (cI, 32, .inl (fun _ => 0))), (b2, .inl (cI, 8, .inl (nA (fun _ => 0))))] H := hP
  have hD : va_D A [(b0, .inr (0, [.ref b1, .ref b2, .int (nI 0)])), (b1, .inl (cI, 32, .inl (fun _ => 0))), (b2, .inl (cI, 8, .inl (nA (fun _ => 0))))] := hD
  exact ma_vret hQ hx hb hr hlocks (b1, b2) hP hD hS rfl dX0_init_20
abbrev rm_X1_init : Room := { frames := 1, cells := 1, slots := 24, locals := 12 }
set_option maxHeartbeats 4000000 in
set_option maxRecDepth 100000 in
theorem c_X1_init (l : Launch) (D : va_G) (cI : ClassId) (m0 sz : Nat) : MA l yX1_init wsX1_init rm_X1_init D cI [(m0, .inr (1, [.null, .int (nI 0)]))] [.ref m0] sz (fun (v9 : Option Value) (u9 : Nat) => v9 = none) (fun (u9 : Nat) => [(m0, .inr (1, [.ref u9, .int (nI 0)])), (u9, .inl (cI, 24, .inl (nA (fun _ => 0))))]) 1 24 := by
  refine ma_of (C := RX1) (cc := cX1_init) (maxL := 1) (ret := none) rfl (by decide) rfl (Nat.le_of_ble_eq_true rfl) ?_
  intro pg ev sv mi ag bl mt cd ls Q A hA hQ hx hb hr hlocks hml hts hown hin hK hE hD H locs hP hS hl
  have hP : va_P D vwCl [(m0, .inr (1, [.null, .int (nI 0)]))] H := hP
  have hD : va_D A [(m0, .inr (1, [.null, .int (nI 0)]))] := hD
  have hl : lv_has ls 1 [(0, .ref m0)] := hl
  have hin : mt.name = "<init>" := hin
  refine lv_aload_n hx hb dX1_init_0 rfl (lv_at hl 0 rfl) ?_
  refine W.objInit hx hb hown (hts (.methodLink RX1 3 objectInit) (by decide +kernel)) (hts (.instanceMethod objectInit) (by decide +kernel)) (hts _ (List.mem_cons_of_mem _ (List.mem_append_left _ (List.mem_of_getElem? (i := 2) rfl)))) rfl (by rw [hml]; exact hl.1) rfl dX1_init_1 (Nat.le_of_ble_eq_true rfl) (Nat.le_of_ble_eq_true rfl) ?_
  refine W.eq (g2 := F0 mi 4 ls []) rfl ?_
  refine lv_aload_n hx hb dX1_init_4 rfl (lv_at hl 0 rfl) ?_
  refine z_bipush (n := 24) hx hb rfl (by decide) dX1_init_5 ?_
  refine z_newaN hx hb (hts (.arrayClass .int) (by decide +kernel)) hK hP hD hS hA (by decide) (Nat.le_of_ble_eq_true rfl) (Nat.le_of_ble_eq_true rfl) dX1_init_7 (fun m1 H hP hD hS => ?_)
  have hP : va_P D vwCl [(m0, .inr (1, [.null, .int (nI 0)])), (m1, .inl (cI, 24, .inl (nA (fun _ => 0))))] H := hP
  have hD : va_D A [(m0, .inr (1, [.null, .int (nI 0)])), (m1, .inl (cI, 24, .inl (nA (fun _ => 0))))] := hD
  refine va_putF (ty := tyX1 0) hx hb hts (by decide +kernel) tyX1 tyX1_ok nmX1 hown hK hP hD hS 0 rfl rfl 0 (by decide) (hts (.fieldLink RX1 9 "TelegraphDesk$Message" "types" "[I") (by decide +kernel)) (fun _ h9 => h9) rfl hin rfl (tyX1_ok 0 (by decide)) rfl rfl (Nat.le_of_ble_eq_true rfl) dX1_init_9 (fun H locs hP hD hS => ?_)
  have hP : va_P D vwCl [(m0, .inr (1, [.ref m1, .int (nI 0)])), (m1, .inl (cI, 24, .inl (nA (fun _ => 0))))] H := hP
  have hD : va_D A [(m0, .inr (1, [.ref m1, .int (nI 0)])), (m1, .inl (cI, 24, .inl (nA (fun _ => 0))))] := hD
  exact ma_vret hQ hx hb hr hlocks (m1) hP hD hS rfl dX1_init_12
abbrev rm_X2_init : Room := { frames := 1, cells := 4, slots := 97, locals := 12 }
set_option maxHeartbeats 4000000 in
set_option maxRecDepth 100000 in
theorem c_X2_init (l : Launch) (D : va_G) (cI : ClassId) (p0 sz : Nat) : MA l yX2_init wsX2_init rm_X2_init D cI [(p0, .inr (2, [.null, .null, .null, .null, .int (nI 0)]))] [.ref p0] sz (fun (v9 : Option Value) (u9 : Nat × Nat × Nat × Nat) => v9 = none) (fun (u9 : Nat × Nat × Nat × Nat) => [(p0, .inr (2, [.ref u9.1, .ref u9.2.1, .ref u9.2.2.1, .ref u9.2.2.2, .int (nI 0)])), (u9.1, .inl (cI, 25, .inl (nA (fun _ => 0)))), (u9.2.1, .inl (cI, 24, .inl (nA (fun _ => 0)))), (u9.2.2.1, .inl (cI, 24, .inl (fun _ => 0))), (u9.2.2.2, .inl (cI, 24, .inl (nA (fun _ => 0))))]) 4 97 := by
  refine ma_of (C := RX2) (cc := cX2_init) (maxL := 1) (ret := none) rfl (by decide) rfl (Nat.le_of_ble_eq_true rfl) ?_
  intro pg ev sv mi ag bl mt cd ls Q A hA hQ hx hb hr hlocks hml hts hown hin hK hE hD H locs hP hS hl
  have hP : va_P D vwCl [(p0, .inr (2, [.null, .null, .null, .null, .int (nI 0)]))] H := hP
  have hD : va_D A [(p0, .inr (2, [.null, .null, .null, .null, .int (nI 0)]))] := hD
  have hl : lv_has ls 1 [(0, .ref p0)] := hl
  have hin : mt.name = "<init>" := hin
  refine lv_aload_n hx hb dX2_init_0 rfl (lv_at hl 0 rfl) ?_
  refine W.objInit hx hb hown (hts (.methodLink RX2 3 objectInit) (by decide +kernel)) (hts (.instanceMethod objectInit) (by decide +kernel)) (hts _ (List.mem_cons_of_mem _ (List.mem_append_left _ (List.mem_of_getElem? (i := 2) rfl)))) rfl (by rw [hml]; exact hl.1) rfl dX2_init_1 (Nat.le_of_ble_eq_true rfl) (Nat.le_of_ble_eq_true rfl) ?_
  refine W.eq (g2 := F0 mi 4 ls []) rfl ?_
  refine lv_aload_n hx hb dX2_init_4 rfl (lv_at hl 0 rfl) ?_
  refine z_bipush (n := 25) hx hb rfl (by decide) dX2_init_5 ?_
  refine z_newaN hx hb (hts (.arrayClass .int) (by decide +kernel)) hK hP hD hS hA (by decide) (Nat.le_of_ble_eq_true rfl) (Nat.le_of_ble_eq_true rfl) dX2_init_7 (fun p1 H hP hD hS => ?_)
  have hP : va_P D vwCl [(p0, .inr (2, [.null, .null, .null, .null, .int (nI 0)])), (p1, .inl (cI, 25, .inl (nA (fun _ => 0))))] H := hP
  have hD : va_D A [(p0, .inr (2, [.null, .null, .null, .null, .int (nI 0)])), (p1, .inl (cI, 25, .inl (nA (fun _ => 0))))] := hD
  refine va_putF (ty := tyX2 0) hx hb hts (by decide +kernel) tyX2 tyX2_ok nmX2 hown hK hP hD hS 0 rfl rfl 0 (by decide) (hts (.fieldLink RX2 9 "TelegraphDesk$Parting" "fewest" "[I") (by decide +kernel)) (fun _ h9 => h9) rfl hin rfl (tyX2_ok 0 (by decide)) rfl rfl (Nat.le_of_ble_eq_true rfl) dX2_init_9 (fun H locs hP hD hS => ?_)
  have hP : va_P D vwCl [(p0, .inr (2, [.ref p1, .null, .null, .null, .int (nI 0)])), (p1, .inl (cI, 25, .inl (nA (fun _ => 0))))] H := hP
  have hD : va_D A [(p0, .inr (2, [.ref p1, .null, .null, .null, .int (nI 0)])), (p1, .inl (cI, 25, .inl (nA (fun _ => 0))))] := hD
  refine lv_aload_n hx hb dX2_init_12 rfl (lv_at hl 0 rfl) ?_
  refine z_bipush (n := 24) hx hb rfl (by decide) dX2_init_13 ?_
  refine z_newaN hx hb (hts (.arrayClass .int) (by decide +kernel)) hK hP hD hS hA (by decide) (Nat.le_of_ble_eq_true rfl) (Nat.le_of_ble_eq_true rfl) dX2_init_15 (fun p2 H hP hD hS => ?_)
  have hP : va_P D vwCl [(p0, .inr (2, [.ref p1, .null, .null, .null, .int (nI 0)])), (p1, .inl (cI, 25, .inl (nA (fun _ => 0)))), (p2, .inl (cI, 24, .inl (nA (fun _ => 0))))] H := hP
  have hD : va_D A [(p0, .inr (2, [.ref p1, .null, .null, .null, .int (nI 0)])), (p1, .inl (cI, 25, .inl (nA (fun _ => 0)))), (p2, .inl (cI, 24, .inl (nA (fun _ => 0))))] := hD
  refine va_putF (ty := tyX2 1) hx hb hts (by decide +kernel) tyX2 tyX2_ok nmX2 hown hK hP hD hS 0 rfl rfl 1 (by decide) (hts (.fieldLink RX2 15 "TelegraphDesk$Parting" "lengths" "[I") (by decide +kernel)) (fun _ h9 => h9) rfl hin rfl (tyX2_ok 1 (by decide)) rfl rfl (Nat.le_of_ble_eq_true rfl) dX2_init_17 (fun H locs hP hD hS => ?_)
  have hP : va_P D vwCl [(p0, .inr (2, [.ref p1, .ref p2, .null, .null, .int (nI 0)])), (p1, .inl (cI, 25, .inl (nA (fun _ => 0)))), (p2, .inl (cI, 24, .inl (nA (fun _ => 0))))] H := hP
  have hD : va_D A [(p0, .inr (2, [.ref p1, .ref p2, .null, .null, .int (nI 0)])), (p1, .inl (cI, 25, .inl (nA (fun _ => 0)))), (p2, .inl (cI, 24, .inl (nA (fun _ => 0))))] := hD
  refine lv_aload_n hx hb dX2_init_20 rfl (lv_at hl 0 rfl) ?_
  refine z_bipush (n := 24) hx hb rfl (by decide) dX2_init_21 ?_
  refine z_newa hx hb (hts (.arrayClass .int) (by decide +kernel)) hK hP hD hS hA (by decide) (Nat.le_of_ble_eq_true rfl) (Nat.le_of_ble_eq_true rfl) dX2_init_23 (fun p3 H hP hD hS => ?_)
  have hP : va_P D vwCl [(p0, .inr (2, [.ref p1, .ref p2, .null, .null, .int (nI 0)])), (p1, .inl (cI, 25, .inl (nA (fun _ => 0)))), (p2, .inl (cI, 24, .inl (nA (fun _ => 0)))), (p3, .inl (cI, 24, .inl (fun _ => 0)))] H := hP
  have hD : va_D A [(p0, .inr (2, [.ref p1, .ref p2, .null, .null, .int (nI 0)])), (p1, .inl (cI, 25, .inl (nA (fun _ => 0)))), (p2, .inl (cI, 24, .inl (nA (fun _ => 0)))), (p3, .inl (cI, 24, .inl (fun _ => 0)))] := hD
  refine va_putF (ty := tyX2 2) hx hb hts (by decide +kernel) tyX2 tyX2_ok nmX2 hown hK hP hD hS 0 rfl rfl 2 (by decide) (hts (.fieldLink RX2 18 "TelegraphDesk$Parting" "codes" "[I") (by decide +kernel)) (fun _ h9 => h9) rfl hin rfl (tyX2_ok 2 (by decide)) rfl rfl (Nat.le_of_ble_eq_true rfl) dX2_init_25 (fun H locs hP hD hS => ?_)
  have hP : va_P D vwCl [(p0, .inr (2, [.ref p1, .ref p2, .ref p3, .null, .int (nI 0)])), (p1, .inl (cI, 25, .inl (nA (fun _ => 0)))), (p2, .inl (cI, 24, .inl (nA (fun _ => 0)))), (p3, .inl (cI, 24, .inl (fun _ => 0)))] H := hP
  have hD : va_D A [(p0, .inr (2, [.ref p1, .ref p2, .ref p3, .null, .int (nI 0)])), (p1, .inl (cI, 25, .inl (nA (fun _ => 0)))), (p2, .inl (cI, 24, .inl (nA (fun _ => 0)))), (p3, .inl (cI, 24, .inl (fun _ => 0)))] := hD
  refine lv_aload_n hx hb dX2_init_28 rfl (lv_at hl 0 rfl) ?_
  refine z_bipush (n := 24) hx hb rfl (by decide) dX2_init_29 ?_
  refine z_newaN hx hb (hts (.arrayClass .int) (by decide +kernel)) hK hP hD hS hA (by decide) (Nat.le_of_ble_eq_true rfl) (Nat.le_of_ble_eq_true rfl) dX2_init_31 (fun p4 H hP hD hS => ?_)
  have hP : va_P D vwCl [(p0, .inr (2, [.ref p1, .ref p2, .ref p3, .null, .int (nI 0)])), (p1, .inl (cI, 25, .inl (nA (fun _ => 0)))), (p2, .inl (cI, 24, .inl (nA (fun _ => 0)))), (p3, .inl (cI, 24, .inl (fun _ => 0))), (p4, .inl (cI, 24, .inl (nA (fun _ => 0))))] H := hP
  have hD : va_D A [(p0, .inr (2, [.ref p1, .ref p2, .ref p3, .null, .int (nI 0)])), (p1, .inl (cI, 25, .inl (nA (fun _ => 0)))), (p2, .inl (cI, 24, .inl (nA (fun _ => 0)))), (p3, .inl (cI, 24, .inl (fun _ => 0))), (p4, .inl (cI, 24, .inl (nA (fun _ => 0))))] := hD
  refine va_putF (ty := tyX2 3) hx hb hts (by decide +kernel) tyX2 tyX2_ok nmX2 hown hK hP hD hS 0 rfl rfl 3 (by decide) (hts (.fieldLink RX2 21 "TelegraphDesk$Parting" "starts" "[I") (by decide +kernel)) (fun _ h9 => h9) rfl hin rfl (tyX2_ok 3 (by decide)) rfl rfl (Nat.le_of_ble_eq_true rfl) dX2_init_33 (fun H locs hP hD hS => ?_)
  have hP : va_P D vwCl [(p0, .inr (2, [.ref p1, .ref p2, .ref p3, .ref p4, .int (nI 0)])), (p1, .inl (cI, 25, .inl (nA (fun _ => 0)))), (p2, .inl (cI, 24, .inl (nA (fun _ => 0)))), (p3, .inl (cI, 24, .inl (fun _ => 0))), (p4, .inl (cI, 24, .inl (nA (fun _ => 0))))] H := hP
  have hD : va_D A [(p0, .inr (2, [.ref p1, .ref p2, .ref p3, .ref p4, .int (nI 0)])), (p1, .inl (cI, 25, .inl (nA (fun _ => 0)))), (p2, .inl (cI, 24, .inl (nA (fun _ => 0)))), (p3, .inl (cI, 24, .inl (fun _ => 0))), (p4, .inl (cI, 24, .inl (nA (fun _ => 0))))] := hD
  exact ma_vret hQ hx hb hr hlocks (p1, p2, p3, p4) hP hD hS rfl dX2_init_36
abbrev rm_X3_init : Room := { frames := 1, cells := 0, slots := 0, locals := 12 }
set_option maxHeartbeats 4000000 in
set_option maxRecDepth 100000 in
theorem c_X3_init (l : Launch) (D : va_G) (cI : ClassId) (q0 sz : Nat) : MA l yX3_init wsX3_init rm_X3_init D cI [(q0, .inr (3, [.int (nI 0), .int (nI 0), .int (nI 0), .int (nI 0)]))] [.ref q0] sz (fun (v9 : Option Value) (u9 : Unit) => v9 = none) (fun (u9 : Unit) => [(q0, .inr (3, [.int (nI 0), .int (nI 0), .int (nI 0), .int (nI 0)]))]) 0 0 := by
  refine ma_of (C := RX3) (cc := cX3_init) (maxL := 1) (ret := none) rfl (by decide) rfl (Nat.le_of_ble_eq_true rfl) ?_
  intro pg ev sv mi ag bl mt cd ls Q A hA hQ hx hb hr hlocks hml hts hown hin hK hE hD H locs hP hS hl
  have hP : va_P D vwCl [(q0, .inr (3, [.int (nI 0), .int (nI 0), .int (nI 0), .int (nI 0)]))] H := hP
  have hD : va_D A [(q0, .inr (3, [.int (nI 0), .int (nI 0), .int (nI 0), .int (nI 0)]))] := hD
  have hl : lv_has ls 1 [(0, .ref q0)] := hl
  have hin : mt.name = "<init>" := hin
  refine lv_aload_n hx hb dX3_init_0 rfl (lv_at hl 0 rfl) ?_
  refine W.objInit hx hb hown (hts (.methodLink RX3 3 objectInit) (by decide +kernel)) (hts (.instanceMethod objectInit) (by decide +kernel)) (hts _ (List.mem_cons_of_mem _ (List.mem_of_getElem? (i := 2) rfl))) rfl (by rw [hml]; exact hl.1) rfl dX3_init_1 (Nat.le_of_ble_eq_true rfl) (Nat.le_of_ble_eq_true rfl) ?_
  refine W.eq (g2 := F0 mi 4 ls []) rfl ?_
  exact ma_vret hQ hx hb hr hlocks () hP hD hS rfl dX3_init_4
abbrev rm_X4_init : Room := { frames := 2, cells := 16, slots := 277, locals := 32 }
set_option maxHeartbeats 4000000 in
set_option maxRecDepth 100000 in
theorem c_X4_init (l : Launch) (D : va_G) (cI : ClassId) (h0 sz : Nat) : MA l yX4_init wsX4_init rm_X4_init D cI [(h0, .inr (4, [.null, .null, .null, .null, .null, .int (nI 0), .int (nI 0), .int (nI 0), .int (nI 0), .int (nI 0)]))] [.ref h0] sz (fun (v9 : Option Value) (u9 : Nat × Nat × Nat × Nat × Nat × Nat × Nat × Nat × Nat × Nat × Nat × Nat × Nat × Nat × Nat × Nat) => v9 = none) (fun (u9 : Nat × Nat × Nat × Nat × Nat × Nat × Nat × Nat × Nat × Nat × Nat × Nat × Nat × Nat × Nat × Nat) => [(h0, .inr (4, [.ref u9.1, .ref u9.2.2.2.1, .ref u9.2.2.2.2.2.1, .ref u9.2.2.2.2.2.2.2.2.2.2.1, .ref u9.2.2.2.2.2.2.2.2.2.2.2.2.2.2.2, .int (nI 7), .int (nI 0), .int (nI 0), .int (nI 0), .int (nI 0)])), (u9.1, .inr (0, [.ref u9.2.1, .ref u9.2.2.1, .int (nI 0)])), (u9.2.1, .inl (cI, 32, .inl (fun _ => 0))), (u9.2.2.1, .inl (cI, 8, .inl (nA (fun _ => 0)))), (u9.2.2.2.1, .inr (1, [.ref u9.2.2.2.2.1, .int (nI 0)])), (u9.2.2.2.2.1, .inl (cI, 24, .inl (nA (fun _ => 0)))), (u9.2.2.2.2.2.1, .inr (2, [.ref u9.2.2.2.2.2.2.1, .ref u9.2.2.2.2.2.2.2.1, .ref u9.2.2.2.2.2.2.2.2.1, .ref u9.2.2.2.2.2.2.2.2.2.1, .int (nI 0)])), (u9.2.2.2.2.2.2.1, .inl (cI, 25, .inl (nA (fun _ => 0)))), (u9.2.2.2.2.2.2.2.1, .inl (cI, 24, .inl (nA (fun _ => 0)))), (u9.2.2.2.2.2.2.2.2.1, .inl (cI, 24, .inl (fun _ => 0))), (u9.2.2.2.2.2.2.2.2.2.1, .inl (cI, 24, .inl (nA (fun _ => 0)))), (u9.2.2.2.2.2.2.2.2.2.2.1, .inr (2, [.ref u9.2.2.2.2.2.2.2.2.2.2.2.1, .ref u9.2.2.2.2.2.2.2.2.2.2.2.2.1, .ref u9.2.2.2.2.2.2.2.2.2.2.2.2.2.1, .ref u9.2.2.2.2.2.2.2.2.2.2.2.2.2.2.1, .int (nI 0)])), (u9.2.2.2.2.2.2.2.2.2.2.2.1, .inl (cI, 25, .inl (nA (fun _ => 0)))), (u9.2.2.2.2.2.2.2.2.2.2.2.2.1, .inl (cI, 24, .inl (nA (fun _ => 0)))), (u9.2.2.2.2.2.2.2.2.2.2.2.2.2.1, .inl (cI, 24, .inl (fun _ => 0))), (u9.2.2.2.2.2.2.2.2.2.2.2.2.2.2.1, .inl (cI, 24, .inl (nA (fun _ => 0)))), (u9.2.2.2.2.2.2.2.2.2.2.2.2.2.2.2, .inr (3, [.int (nI 0), .int (nI 0), .int (nI 0), .int (nI 0)]))]) 16 277 := by
  refine ma_of (C := RX4) (cc := cX4_init) (maxL := 1) (ret := none) rfl (by decide) rfl (Nat.le_of_ble_eq_true rfl) ?_
  intro pg ev sv mi ag bl mt cd ls Q A hA hQ hx hb hr hlocks hml hts hown hin hK hE hD H locs hP hS hl
  have hP : va_P D vwCl [(h0, .inr (4, [.null, .null, .null, .null, .null, .int (nI 0), .int (nI 0), .int (nI 0), .int (nI 0), .int (nI 0)]))] H := hP
  have hD : va_D A [(h0, .inr (4, [.null, .null, .null, .null, .null, .int (nI 0), .int (nI 0), .int (nI 0), .int (nI 0), .int (nI 0)]))] := hD
  have hl : lv_has ls 1 [(0, .ref h0)] := hl
  have hin : mt.name = "<init>" := hin
  refine lv_aload_n hx hb dX4_init_0 rfl (lv_at hl 0 rfl) ?_
  refine W.objInit hx hb hown (hts (.methodLink RX4 1 objectInit) (by decide +kernel)) (hts (.instanceMethod objectInit) (by decide +kernel)) (hts _ (List.mem_cons_of_mem _ (List.mem_append_left _ (List.mem_append_left _ (List.mem_append_left _ (List.mem_append_left _ (List.mem_append_left _ (List.mem_append_left _ (List.mem_of_getElem? (i := 2) rfl))))))))) rfl (by rw [hml]; exact hl.1) rfl dX4_init_1 (Nat.le_of_ble_eq_true rfl) (Nat.le_of_ble_eq_true rfl) ?_
  refine W.eq (g2 := F0 mi 4 ls []) rfl ?_
  refine lv_aload_n hx hb dX4_init_4 rfl (lv_at hl 0 rfl) ?_
  refine va_new (ci := 0) (fs := [.null, .null, .int (nI 0)]) hx hb hts (by decide +kernel) tyX0 tyX0_ok hown (hts (.classLink RX4 7 RX0) (by decide +kernel)) (hts (.instantiable RX0 3) (by decide +kernel)) (hts (.initialized RX0) (by decide +kernel)) hK hP hD hS hA rfl dfX0 (Nat.le_of_ble_eq_true rfl) (Nat.le_of_ble_eq_true rfl) dX4_init_5 (fun b0 H hP hD hS => ?_)
  have hP : va_P D vwCl [(h0, .inr (4, [.null, .null, .null, .null, .null, .int (nI 0), .int (nI 0), .int (nI 0), .int (nI 0), .int (nI 0)])), (b0, .inr (0, [.null, .null, .int (nI 0)]))] H := hP
  have hD : va_D A [(h0, .inr (4, [.null, .null, .null, .null, .null, .int (nI 0), .int (nI 0), .int (nI 0), .int (nI 0), .int (nI 0)])), (b0, .inr (0, [.null, .null, .int (nI 0)]))] := hD
  refine lv_dup hx hb dX4_init_8 rfl ?_
  refine z_maI (As := []) (rest := [.ref b0, .ref h0]) (wr := [(h0, .inr (4, [.null, .null, .null, .null, .null, .int (nI 0), .int (nI 0), .int (nI 0), .int (nI 0), .int (nI 0)]))]) ⟨hx, hb, hml, hown, hts⟩ (c_X0_init l D cI b0 _) (cwI 0 hts gX4_init_X0_init rfl rfl rfl (hts (.initialized RX0) (by decide +kernel)) (hts (.methodLink RX4 9 yX0_init) (by decide +kernel)) (hts (.instanceMethod yX0_init) (by decide +kernel)) rfl (by decide +kernel) ⟨Nat.le_of_ble_eq_true rfl, Nat.le_of_ble_eq_true rfl⟩) ⟨hK, hE⟩ hP hD hS hA [1] [0] rfl rfl (by decide) (by decide) (by decide) rfl hl.1 rfl (Nat.le_of_ble_eq_true rfl) dX4_init_9 (Nat.le_of_ble_eq_true rfl) (Nat.le_of_ble_eq_true rfl) (fun v9 u9 H locs hp hP hD hS => ?_)
  obtain ⟨b1, b2⟩ := u9
  obtain rfl := hp
  have hP : va_P D vwCl [(h0, .inr (4, [.null, .null, .null, .null, .null, .int (nI 0), .int (nI 0), .int (nI 0), .int (nI 0), .int (nI 0)])), (b0, .inr (0, [.ref b1, .ref b2, .int (nI 0)])), (b1, .inl (cI, 32, .inl (fun _ => 0))), (b2, .inl (cI, 8, .inl (nA (fun _ => 0))))] H := hP
  have hD : va_D A [(h0, .inr (4, [.null, .null, .null, .null, .null, .int (nI 0), .int (nI 0), .int (nI 0), .int (nI 0), .int (nI 0)])), (b0, .inr (0, [.ref b1, .ref b2, .int (nI 0)])), (b1, .inl (cI, 32, .inl (fun _ => 0))), (b2, .inl (cI, 8, .inl (nA (fun _ => 0))))] := hD
  refine W.eq (g2 := F0 mi 12 ls [.ref b0, .ref h0]) rfl ?_
  refine va_putF (ty := tyX4 0) hx hb hts (by decide +kernel) tyX4 tyX4_ok nmX4 hown hK hP hD hS 0 rfl rfl 0 (by decide) (hts (.fieldLink RX4 10 "TelegraphDesk" "book" "LTelegraphDesk$CodeBook;") (by decide +kernel)) (fun _ h9 => h9) rfl hin rfl (tyX4_ok 0 (by decide)) rfl rfl (Nat.le_of_ble_eq_true rfl) dX4_init_12 (fun H locs hP hD hS => ?_)
  have hP : va_P D vwCl [(h0, .inr (4, [.ref b0, .null, .null, .null, .null, .int (nI 0), .int (nI 0), .int (nI 0), .int (nI 0), .int (nI 0)])), (b0, .inr (0, [.ref b1, .ref b2, .int (nI 0)])), (b1, .inl (cI, 32, .inl (fun _ => 0))), (b2, .inl (cI, 8, .inl (nA (fun _ => 0))))] H := hP
  have hD : va_D A [(h0, .inr (4, [.ref b0, .null, .null, .null, .null, .int (nI 0), .int (nI 0), .int (nI 0), .int (nI 0), .int (nI 0)])), (b0, .inr (0, [.ref b1, .ref b2, .int (nI 0)])), (b1, .inl (cI, 32, .inl (fun _ => 0))), (b2, .inl (cI, 8, .inl (nA (fun _ => 0))))] := hD
  refine lv_aload_n hx hb dX4_init_15 rfl (lv_at hl 0 rfl) ?_
  refine va_new (ci := 1) (fs := [.null, .int (nI 0)]) hx hb hts (by decide +kernel) tyX1 tyX1_ok hown (hts (.classLink RX4 16 RX1) (by decide +kernel)) (hts (.instantiable RX1 2) (by decide +kernel)) (hts (.initialized RX1) (by decide +kernel)) hK hP hD hS hA rfl dfX1 (Nat.le_of_ble_eq_true rfl) (Nat.le_of_ble_eq_true rfl) dX4_init_16 (fun m0 H hP hD hS => ?_)
  have hP : va_P D vwCl [(h0, .inr (4, [.ref b0, .null, .null, .null, .null, .int (nI 0), .int (nI 0), .int (nI 0), .int (nI 0), .int (nI 0)])), (b0, .inr (0, [.ref b1, .ref b2, .int (nI 0)])), (b1, .inl (cI, 32, .inl (fun _ => 0))), (b2, .inl (cI, 8, .inl (nA (fun _ => 0)))), (m0, .inr (1, [.null, .int (nI 0)]))] H := hP
  have hD : va_D A [(h0, .inr (4, [.ref b0, .null, .null, .null, .null, .int (nI 0), .int (nI 0), .int (nI 0), .int (nI 0), .int (nI 0)])), (b0, .inr (0, [.ref b1, .ref b2, .int (nI 0)])), (b1, .inl (cI, 32, .inl (fun _ => 0))), (b2, .inl (cI, 8, .inl (nA (fun _ => 0)))), (m0, .inr (1, [.null, .int (nI 0)]))] := hD
  refine lv_dup hx hb dX4_init_19 rfl ?_
  refine z_maI (As := []) (rest := [.ref m0, .ref h0]) (wr := [(h0, .inr (4, [.ref b0, .null, .null, .null, .null, .int (nI 0), .int (nI 0), .int (nI 0), .int (nI 0), .int (nI 0)])), (b0, .inr (0, [.ref b1, .ref b2, .int (nI 0)])), (b1, .inl (cI, 32, .inl (fun _ => 0))), (b2, .inl (cI, 8, .inl (nA (fun _ => 0))))]) ⟨hx, hb, hml, hown, hts⟩ (c_X1_init l D cI m0 _) (cwI 0 hts gX4_init_X1_init rfl rfl rfl (hts (.initialized RX1) (by decide +kernel)) (hts (.methodLink RX4 18 yX1_init) (by decide +kernel)) (hts (.instanceMethod yX1_init) (by decide +kernel)) rfl (by decide +kernel) ⟨Nat.le_of_ble_eq_true rfl, Nat.le_of_ble_eq_true rfl⟩) ⟨hK, hE⟩ hP hD hS hA [4] [0, 1, 2, 3] rfl rfl (by decide) (by decide) (by decide) rfl hl.1 rfl (Nat.le_of_ble_eq_true rfl) dX4_init_20 (Nat.le_of_ble_eq_true rfl) (Nat.le_of_ble_eq_true rfl) (fun v9 u9 H locs hp hP hD hS => ?_)
  obtain ⟨m1, rfl⟩ : ∃ z, z = u9 := ⟨_, rfl⟩
  obtain rfl := hp
  have hP : va_P D vwCl [(h0, .inr (4, [.ref b0, .null, .null, .null, .null, .int (nI 0), .int (nI 0), .int (nI 0), .int (nI 0), .int (nI 0)])), (b0, .inr (0, [.ref b1, .ref b2, .int (nI 0)])), (b1, .inl (cI, 32, .inl (fun _ => 0))), (b2, .inl (cI, 8, .inl (nA (fun _ => 0)))), (m0, .inr (1, [.ref m1, .int (nI 0)])), (m1, .inl (cI, 24, .inl (nA (fun _ => 0))))] H := hP
  have hD : va_D A [(h0, .inr (4, [.ref b0, .null, .null, .null, .null, .int (nI 0), .int (nI 0), .int (nI 0), .int (nI 0), .int (nI 0)])), (b0, .inr (0, [.ref b1, .ref b2, .int (nI 0)])), (b1, .inl (cI, 32, .inl (fun _ => 0))), (b2, .inl (cI, 8, .inl (nA (fun _ => 0)))), (m0, .inr (1, [.ref m1, .int (nI 0)])), (m1, .inl (cI, 24, .inl (nA (fun _ => 0))))] := hD
  refine W.eq (g2 := F0 mi 23 ls [.ref m0, .ref h0]) rfl ?_
  refine va_putF (ty := tyX4 1) hx hb hts (by decide +kernel) tyX4 tyX4_ok nmX4 hown hK hP hD hS 0 rfl rfl 1 (by decide) (hts (.fieldLink RX4 19 "TelegraphDesk" "message" "LTelegraphDesk$Message;") (by decide +kernel)) (fun _ h9 => h9) rfl hin rfl (tyX4_ok 1 (by decide)) rfl rfl (Nat.le_of_ble_eq_true rfl) dX4_init_23 (fun H locs hP hD hS => ?_)
  have hP : va_P D vwCl [(h0, .inr (4, [.ref b0, .ref m0, .null, .null, .null, .int (nI 0), .int (nI 0), .int (nI 0), .int (nI 0), .int (nI 0)])), (b0, .inr (0, [.ref b1, .ref b2, .int (nI 0)])), (b1, .inl (cI, 32, .inl (fun _ => 0))), (b2, .inl (cI, 8, .inl (nA (fun _ => 0)))), (m0, .inr (1, [.ref m1, .int (nI 0)])), (m1, .inl (cI, 24, .inl (nA (fun _ => 0))))] H := hP
  have hD : va_D A [(h0, .inr (4, [.ref b0, .ref m0, .null, .null, .null, .int (nI 0), .int (nI 0), .int (nI 0), .int (nI 0), .int (nI 0)])), (b0, .inr (0, [.ref b1, .ref b2, .int (nI 0)])), (b1, .inl (cI, 32, .inl (fun _ => 0))), (b2, .inl (cI, 8, .inl (nA (fun _ => 0)))), (m0, .inr (1, [.ref m1, .int (nI 0)])), (m1, .inl (cI, 24, .inl (nA (fun _ => 0))))] := hD
  refine lv_aload_n hx hb dX4_init_26 rfl (lv_at hl 0 rfl) ?_
  refine va_new (ci := 2) (fs := [.null, .null, .null, .null, .int (nI 0)]) hx hb hts (by decide +kernel) tyX2 tyX2_ok hown (hts (.classLink RX4 23 RX2) (by decide +kernel)) (hts (.instantiable RX2 5) (by decide +kernel)) (hts (.initialized RX2) (by decide +kernel)) hK hP hD hS hA rfl dfX2 (Nat.le_of_ble_eq_true rfl) (Nat.le_of_ble_eq_true rfl) dX4_init_27 (fun p0 H hP hD hS => ?_)
  have hP : va_P D vwCl [(h0, .inr (4, [.ref b0, .ref m0, .null, .null, .null, .int (nI 0), .int (nI 0), .int (nI 0), .int (nI 0), .int (nI 0)])), (b0, .inr (0, [.ref b1, .ref b2, .int (nI 0)])), (b1, .inl (cI, 32, .inl (fun _ => 0))), (b2, .inl (cI, 8, .inl (nA (fun _ => 0)))), (m0, .inr (1, [.ref m1, .int (nI 0)])), (m1, .inl (cI, 24, .inl (nA (fun _ => 0)))), (p0, .inr (2, [.null, .null, .null, .null, .int (nI 0)]))] H := hP
  have hD : va_D A [(h0, .inr (4, [.ref b0, .ref m0, .null, .null, .null, .int (nI 0), .int (nI 0), .int (nI 0), .int (nI 0), .int (nI 0)])), (b0, .inr (0, [.ref b1, .ref b2, .int (nI 0)])), (b1, .inl (cI, 32, .inl (fun _ => 0))), (b2, .inl (cI, 8, .inl (nA (fun _ => 0)))), (m0, .inr (1, [.ref m1, .int (nI 0)])), (m1, .inl (cI, 24, .inl (nA (fun _ => 0)))), (p0, .inr (2, [.null, .null, .null, .null, .int (nI 0)]))] := hD
  refine lv_dup hx hb dX4_init_30 rfl ?_
  refine z_maI (As := []) (rest := [.ref p0, .ref h0]) (wr := [(h0, .inr (4, [.ref b0, .ref m0, .null, .null, .null, .int (nI 0), .int (nI 0), .int (nI 0), .int (nI 0), .int (nI 0)])), (b0, .inr (0, [.ref b1, .ref b2, .int (nI 0)])), (b1, .inl (cI, 32, .inl (fun _ => 0))), (b2, .inl (cI, 8, .inl (nA (fun _ => 0)))), (m0, .inr (1, [.ref m1, .int (nI 0)])), (m1, .inl (cI, 24, .inl (nA (fun _ => 0))))]) ⟨hx, hb, hml, hown, hts⟩ (c_X2_init l D cI p0 _) (cwI 0 hts gX4_init_X2_init rfl rfl rfl (hts (.initialized RX2) (by decide +kernel)) (hts (.methodLink RX4 25 yX2_init) (by decide +kernel)) (hts (.instanceMethod yX2_init) (by decide +kernel)) rfl (by decide +kernel) ⟨Nat.le_of_ble_eq_true rfl, Nat.le_of_ble_eq_true rfl⟩) ⟨hK, hE⟩ hP hD hS hA [6] [0, 1, 2, 3, 4, 5] rfl rfl (by decide) (by decide) (by decide) rfl hl.1 rfl (Nat.le_of_ble_eq_true rfl) dX4_init_31 (Nat.le_of_ble_eq_true rfl) (Nat.le_of_ble_eq_true rfl) (fun v9 u9 H locs hp hP hD hS => ?_)
  obtain ⟨p1, p2, p3, p4⟩ := u9
  obtain rfl := hp
  have hP : va_P D vwCl [(h0, .inr (4, [.ref b0, .ref m0, .null, .null, .null, .int (nI 0), .int (nI 0), .int (nI 0), .int (nI 0), .int (nI 0)])), (b0, .inr (0, [.ref b1, .ref b2, .int (nI 0)])), (b1, .inl (cI, 32, .inl (fun _ => 0))), (b2, .inl (cI, 8, .inl (nA (fun _ => 0)))), (m0, .inr (1, [.ref m1, .int (nI 0)])), (m1, .inl (cI, 24, .inl (nA (fun _ => 0)))), (p0, .inr (2, [.ref p1, .ref p2, .ref p3, .ref p4, .int (nI 0)])), (p1, .inl (cI, 25, .inl (nA (fun _ => 0)))), (p2, .inl (cI, 24, .inl (nA (fun _ => 0)))), (p3, .inl (cI, 24, .inl (fun _ => 0))), (p4, .inl (cI, 24, .inl (nA (fun _ => 0))))] H := hP
  have hD : va_D A [(h0, .inr (4, [.ref b0, .ref m0, .null, .null, .null, .int (nI 0), .int (nI 0), .int (nI 0), .int (nI 0), .int (nI 0)])), (b0, .inr (0, [.ref b1, .ref b2, .int (nI 0)])), (b1, .inl (cI, 32, .inl (fun _ => 0))), (b2, .inl (cI, 8, .inl (nA (fun _ => 0)))), (m0, .inr (1, [.ref m1, .int (nI 0)])), (m1, .inl (cI, 24, .inl (nA (fun _ => 0)))), (p0, .inr (2, [.ref p1, .ref p2, .ref p3, .ref p4, .int (nI 0)])), (p1, .inl (cI, 25, .inl (nA (fun _ => 0)))), (p2, .inl (cI, 24, .inl (nA (fun _ => 0)))), (p3, .inl (cI, 24, .inl (fun _ => 0))), (p4, .inl (cI, 24, .inl (nA (fun _ => 0))))] := hD
  refine W.eq (g2 := F0 mi 34 ls [.ref p0, .ref h0]) rfl ?_
  refine va_putF (ty := tyX4 2) hx hb hts (by decide +kernel) tyX4 tyX4_ok nmX4 hown hK hP hD hS 0 rfl rfl 2 (by decide) (hts (.fieldLink RX4 26 "TelegraphDesk" "parting" "LTelegraphDesk$Parting;") (by decide +kernel)) (fun _ h9 => h9) rfl hin rfl (tyX4_ok 2 (by decide)) rfl rfl (Nat.le_of_ble_eq_true rfl) dX4_init_34 (fun H locs hP hD hS => ?_)
  have hP : va_P D vwCl [(h0, .inr (4, [.ref b0, .ref m0, .ref p0, .null, .null, .int (nI 0), .int (nI 0), .int (nI 0), .int (nI 0), .int (nI 0)])), (b0, .inr (0, [.ref b1, .ref b2, .int (nI 0)])), (b1, .inl (cI, 32, .inl (fun _ => 0))), (b2, .inl (cI, 8, .inl (nA (fun _ => 0)))), (m0, .inr (1, [.ref m1, .int (nI 0)])), (m1, .inl (cI, 24, .inl (nA (fun _ => 0)))), (p0, .inr (2, [.ref p1, .ref p2, .ref p3, .ref p4, .int (nI 0)])), (p1, .inl (cI, 25, .inl (nA (fun _ => 0)))), (p2, .inl (cI, 24, .inl (nA (fun _ => 0)))), (p3, .inl (cI, 24, .inl (fun _ => 0))), (p4, .inl (cI, 24, .inl (nA (fun _ => 0))))] H := hP
  have hD : va_D A [(h0, .inr (4, [.ref b0, .ref m0, .ref p0, .null, .null, .int (nI 0), .int (nI 0), .int (nI 0), .int (nI 0), .int (nI 0)])), (b0, .inr (0, [.ref b1, .ref b2, .int (nI 0)])), (b1, .inl (cI, 32, .inl (fun _ => 0))), (b2, .inl (cI, 8, .inl (nA (fun _ => 0)))), (m0, .inr (1, [.ref m1, .int (nI 0)])), (m1, .inl (cI, 24, .inl (nA (fun _ => 0)))), (p0, .inr (2, [.ref p1, .ref p2, .ref p3, .ref p4, .int (nI 0)])), (p1, .inl (cI, 25, .inl (nA (fun _ => 0)))), (p2, .inl (cI, 24, .inl (nA (fun _ => 0)))), (p3, .inl (cI, 24, .inl (fun _ => 0))), (p4, .inl (cI, 24, .inl (nA (fun _ => 0))))] := hD
  refine lv_aload_n hx hb dX4_init_37 rfl (lv_at hl 0 rfl) ?_
  refine va_new (ci := 2) (fs := [.null, .null, .null, .null, .int (nI 0)]) hx hb hts (by decide +kernel) tyX2 tyX2_ok hown (hts (.classLink RX4 23 RX2) (by decide +kernel)) (hts (.instantiable RX2 5) (by decide +kernel)) (hts (.initialized RX2) (by decide +kernel)) hK hP hD hS hA rfl dfX2 (Nat.le_of_ble_eq_true rfl) (Nat.le_of_ble_eq_true rfl) dX4_init_38 (fun s0 H hP hD hS => ?_)
  have hP : va_P D vwCl [(h0, .inr (4, [.ref b0, .ref m0, .ref p0, .null, .null, .int (nI 0), .int (nI 0), .int (nI 0), .int (nI 0), .int (nI 0)])), (b0, .inr (0, [.ref b1, .ref b2, .int (nI 0)])), (b1, .inl (cI, 32, .inl (fun _ => 0))), (b2, .inl (cI, 8, .inl (nA (fun _ => 0)))), (m0, .inr (1, [.ref m1, .int (nI 0)])), (m1, .inl (cI, 24, .inl (nA (fun _ => 0)))), (p0, .inr (2, [.ref p1, .ref p2, .ref p3, .ref p4, .int (nI 0)])), (p1, .inl (cI, 25, .inl (nA (fun _ => 0)))), (p2, .inl (cI, 24, .inl (nA (fun _ => 0)))), (p3, .inl (cI, 24, .inl (fun _ => 0))), (p4, .inl (cI, 24, .inl (nA (fun _ => 0)))), (s0, .inr (2, [.null, .null, .null, .null, .int (nI 0)]))] H := hP
  have hD : va_D A [(h0, .inr (4, [.ref b0, .ref m0, .ref p0, .null, .null, .int (nI 0), .int (nI 0), .int (nI 0), .int (nI 0), .int (nI 0)])), (b0, .inr (0, [.ref b1, .ref b2, .int (nI 0)])), (b1, .inl (cI, 32, .inl (fun _ => 0))), (b2, .inl (cI, 8, .inl (nA (fun _ => 0)))), (m0, .inr (1, [.ref m1, .int (nI 0)])), (m1, .inl (cI, 24, .inl (nA (fun _ => 0)))), (p0, .inr (2, [.ref p1, .ref p2, .ref p3, .ref p4, .int (nI 0)])), (p1, .inl (cI, 25, .inl (nA (fun _ => 0)))), (p2, .inl (cI, 24, .inl (nA (fun _ => 0)))), (p3, .inl (cI, 24, .inl (fun _ => 0))), (p4, .inl (cI, 24, .inl (nA (fun _ => 0)))), (s0, .inr (2, [.null, .null, .null, .null, .int (nI 0)]))] := hD
  refine lv_dup hx hb dX4_init_41 rfl ?_
  refine z_maI (As := []) (rest := [.ref s0, .ref h0]) (wr := [(h0, .inr (4, [.ref b0, .ref m0, .ref p0, .null, .null, .int (nI 0), .int (nI 0), .int (nI 0), .int (nI 0), .int (nI 0)])), (b0, .inr (0, [.ref b1, .ref b2, .int (nI 0)])), (b1, .inl (cI, 32, .inl (fun _ => 0))), (b2, .inl (cI, 8, .inl (nA (fun _ => 0)))), (m0, .inr (1, [.ref m1, .int (nI 0)])), (m1, .inl (cI, 24, .inl (nA (fun _ => 0)))), (p0, .inr (2, [.ref p1, .ref p2, .ref p3, .ref p4, .int (nI 0)])), (p1, .inl (cI, 25, .inl (nA (fun _ => 0)))), (p2, .inl (cI, 24, .inl (nA (fun _ => 0)))), (p3, .inl (cI, 24, .inl (fun _ => 0))), (p4, .inl (cI, 24, .inl (nA (fun _ => 0))))]) ⟨hx, hb, hml, hown, hts⟩ (c_X2_init l D cI s0 _) (cwI 0 hts gX4_init_X2_init rfl rfl rfl (hts (.initialized RX2) (by decide +kernel)) (hts (.methodLink RX4 25 yX2_init) (by decide +kernel)) (hts (.instanceMethod yX2_init) (by decide +kernel)) rfl (by decide +kernel) ⟨Nat.le_of_ble_eq_true rfl, Nat.le_of_ble_eq_true rfl⟩) ⟨hK, hE⟩ hP hD hS hA [11] [0, 1, 2, 3, 4, 5, 6, 7, 8, 9, 10] rfl rfl (by decide) (by decide) (by decide) rfl hl.1 rfl (Nat.le_of_ble_eq_true rfl) dX4_init_42 (Nat.le_of_ble_eq_true rfl) (Nat.le_of_ble_eq_true rfl) (fun v9 u9 H locs hp hP hD hS => ?_)
  obtain ⟨s1, s2, s3, s4⟩ := u9
  obtain rfl := hp
  have hP : va_P D vwCl [(h0, .inr (4, [.ref b0, .ref m0, .ref p0, .null, .null, .int (nI 0), .int (nI 0), .int (nI 0), .int (nI 0), .int (nI 0)])), (b0, .inr (0, [.ref b1, .ref b2, .int (nI 0)])), (b1, .inl (cI, 32, .inl (fun _ => 0))), (b2, .inl (cI, 8, .inl (nA (fun _ => 0)))), (m0, .inr (1, [.ref m1, .int (nI 0)])), (m1, .inl (cI, 24, .inl (nA (fun _ => 0)))), (p0, .inr (2, [.ref p1, .ref p2, .ref p3, .ref p4, .int (nI 0)])), (p1, .inl (cI, 25, .inl (nA (fun _ => 0)))), (p2, .inl (cI, 24, .inl (nA (fun _ => 0)))), (p3, .inl (cI, 24, .inl (fun _ => 0))), (p4, .inl (cI, 24, .inl (nA (fun _ => 0)))), (s0, .inr (2, [.ref s1, .ref s2, .ref s3, .ref s4, .int (nI 0)])), (s1, .inl (cI, 25, .inl (nA (fun _ => 0)))), (s2, .inl (cI, 24, .inl (nA (fun _ => 0)))), (s3, .inl (cI, 24, .inl (fun _ => 0))), (s4, .inl (cI, 24, .inl (nA (fun _ => 0))))] H := hP
  have hD : va_D A [(h0, .inr (4, [.ref b0, .ref m0, .ref p0, .null, .null, .int (nI 0), .int (nI 0), .int (nI 0), .int (nI 0), .int (nI 0)])), (b0, .inr (0, [.ref b1, .ref b2, .int (nI 0)])), (b1, .inl (cI, 32, .inl (fun _ => 0))), (b2, .inl (cI, 8, .inl (nA (fun _ => 0)))), (m0, .inr (1, [.ref m1, .int (nI 0)])), (m1, .inl (cI, 24, .inl (nA (fun _ => 0)))), (p0, .inr (2, [.ref p1, .ref p2, .ref p3, .ref p4, .int (nI 0)])), (p1, .inl (cI, 25, .inl (nA (fun _ => 0)))), (p2, .inl (cI, 24, .inl (nA (fun _ => 0)))), (p3, .inl (cI, 24, .inl (fun _ => 0))), (p4, .inl (cI, 24, .inl (nA (fun _ => 0)))), (s0, .inr (2, [.ref s1, .ref s2, .ref s3, .ref s4, .int (nI 0)])), (s1, .inl (cI, 25, .inl (nA (fun _ => 0)))), (s2, .inl (cI, 24, .inl (nA (fun _ => 0)))), (s3, .inl (cI, 24, .inl (fun _ => 0))), (s4, .inl (cI, 24, .inl (nA (fun _ => 0))))] := hD
  refine W.eq (g2 := F0 mi 45 ls [.ref s0, .ref h0]) rfl ?_
  refine va_putF (ty := tyX4 3) hx hb hts (by decide +kernel) tyX4 tyX4_ok nmX4 hown hK hP hD hS 0 rfl rfl 3 (by decide) (hts (.fieldLink RX4 30 "TelegraphDesk" "supposed" "LTelegraphDesk$Parting;") (by decide +kernel)) (fun _ h9 => h9) rfl hin rfl (tyX4_ok 3 (by decide)) rfl rfl (Nat.le_of_ble_eq_true rfl) dX4_init_45 (fun H locs hP hD hS => ?_)
  have hP : va_P D vwCl [(h0, .inr (4, [.ref b0, .ref m0, .ref p0, .ref s0, .null, .int (nI 0), .int (nI 0), .int (nI 0), .int (nI 0), .int (nI 0)])), (b0, .inr (0, [.ref b1, .ref b2, .int (nI 0)])), (b1, .inl (cI, 32, .inl (fun _ => 0))), (b2, .inl (cI, 8, .inl (nA (fun _ => 0)))), (m0, .inr (1, [.ref m1, .int (nI 0)])), (m1, .inl (cI, 24, .inl (nA (fun _ => 0)))), (p0, .inr (2, [.ref p1, .ref p2, .ref p3, .ref p4, .int (nI 0)])), (p1, .inl (cI, 25, .inl (nA (fun _ => 0)))), (p2, .inl (cI, 24, .inl (nA (fun _ => 0)))), (p3, .inl (cI, 24, .inl (fun _ => 0))), (p4, .inl (cI, 24, .inl (nA (fun _ => 0)))), (s0, .inr (2, [.ref s1, .ref s2, .ref s3, .ref s4, .int (nI 0)])), (s1, .inl (cI, 25, .inl (nA (fun _ => 0)))), (s2, .inl (cI, 24, .inl (nA (fun _ => 0)))), (s3, .inl (cI, 24, .inl (fun _ => 0))), (s4, .inl (cI, 24, .inl (nA (fun _ => 0))))] H := hP
  have hD : va_D A [(h0, .inr (4, [.ref b0, .ref m0, .ref p0, .ref s0, .null, .int (nI 0), .int (nI 0), .int (nI 0), .int (nI 0), .int (nI 0)])), (b0, .inr (0, [.ref b1, .ref b2, .int (nI 0)])), (b1, .inl (cI, 32, .inl (fun _ => 0))), (b2, .inl (cI, 8, .inl (nA (fun _ => 0)))), (m0, .inr (1, [.ref m1, .int (nI 0)])), (m1, .inl (cI, 24, .inl (nA (fun _ => 0)))), (p0, .inr (2, [.ref p1, .ref p2, .ref p3, .ref p4, .int (nI 0)])), (p1, .inl (cI, 25, .inl (nA (fun _ => 0)))), (p2, .inl (cI, 24, .inl (nA (fun _ => 0)))), (p3, .inl (cI, 24, .inl (fun _ => 0))), (p4, .inl (cI, 24, .inl (nA (fun _ => 0)))), (s0, .inr (2, [.ref s1, .ref s2, .ref s3, .ref s4, .int (nI 0)])), (s1, .inl (cI, 25, .inl (nA (fun _ => 0)))), (s2, .inl (cI, 24, .inl (nA (fun _ => 0)))), (s3, .inl (cI, 24, .inl (fun _ => 0))), (s4, .inl (cI, 24, .inl (nA (fun _ => 0))))] := hD
  refine lv_aload_n hx hb dX4_init_48 rfl (lv_at hl 0 rfl) ?_
  refine va_new (ci := 3) (fs := [.int (nI 0), .int (nI 0), .int (nI 0), .int (nI 0)]) hx hb hts (by decide +kernel) tyX3 tyX3_ok hown (hts (.classLink RX4 33 RX3) (by decide +kernel)) (hts (.instantiable RX3 4) (by decide +kernel)) (hts (.initialized RX3) (by decide +kernel)) hK hP hD hS hA rfl dfX3 (Nat.le_of_ble_eq_true rfl) (Nat.le_of_ble_eq_true rfl) dX4_init_49 (fun q0 H hP hD hS => ?_)
  have hP : va_P D vwCl [(h0, .inr (4, [.ref b0, .ref m0, .ref p0, .ref s0, .null, .int (nI 0), .int (nI 0), .int (nI 0), .int (nI 0), .int (nI 0)])), (b0, .inr (0, [.ref b1, .ref b2, .int (nI 0)])), (b1, .inl (cI, 32, .inl (fun _ => 0))), (b2, .inl (cI, 8, .inl (nA (fun _ => 0)))), (m0, .inr (1, [.ref m1, .int (nI 0)])), (m1, .inl (cI, 24, .inl (nA (fun _ => 0)))), (p0, .inr (2, [.ref p1, .ref p2, .ref p3, .ref p4, .int (nI 0)])), (p1, .inl (cI, 25, .inl (nA (fun _ => 0)))), (p2, .inl (cI, 24, .inl (nA (fun _ => 0)))), (p3, .inl (cI, 24, .inl (fun _ => 0))), (p4, .inl (cI, 24, .inl (nA (fun _ => 0)))), (s0, .inr (2, [.ref s1, .ref s2, .ref s3, .ref s4, .int (nI 0)])), (s1, .inl (cI, 25, .inl (nA (fun _ => 0)))), (s2, .inl (cI, 24, .inl (nA (fun _ => 0)))), (s3, .inl (cI, 24, .inl (fun _ => 0))), (s4, .inl (cI, 24, .inl (nA (fun _ => 0)))), (q0, .inr (3, [.int (nI 0), .int (nI 0), .int (nI 0), .int (nI 0)]))] H := hP
  have hD : va_D A [(h0, .inr (4, [.ref b0, .ref m0, .ref p0, .ref s0, .null, .int (nI 0), .int (nI 0), .int (nI 0), .int (nI 0), .int (nI 0)])), (b0, .inr (0, [.ref b1, .ref b2, .int (nI 0)])), (b1, .inl (cI, 32, .inl (fun _ => 0))), (b2, .inl (cI, 8, .inl (nA (fun _ => 0)))), (m0, .inr (1, [.ref m1, .int (nI 0)])), (m1, .inl (cI, 24, .inl (nA (fun _ => 0)))), (p0, .inr (2, [.ref p1, .ref p2, .ref p3, .ref p4, .int (nI 0)])), (p1, .inl (cI, 25, .inl (nA (fun _ => 0)))), (p2, .inl (cI, 24, .inl (nA (fun _ => 0)))), (p3, .inl (cI, 24, .inl (fun _ => 0))), (p4, .inl (cI, 24, .inl (nA (fun _ => 0)))), (s0, .inr (2, [.ref s1, .ref s2, .ref s3, .ref s4, .int (nI 0)])), (s1, .inl (cI, 25, .inl (nA (fun _ => 0)))), (s2, .inl (cI, 24, .inl (nA (fun _ => 0)))), (s3, .inl (cI, 24, .inl (fun _ => 0))), (s4, .inl (cI, 24, .inl (nA (fun _ => 0)))), (q0, .inr (3, [.int (nI 0), .int (nI 0), .int (nI 0), .int (nI 0)]))] := hD
  refine lv_dup hx hb dX4_init_52 rfl ?_
  refine z_maIN (As := []) (rest := [.ref q0, .ref h0]) (wr := [(h0, .inr (4, [.ref b0, .ref m0, .ref p0, .ref s0, .null, .int (nI 0), .int (nI 0), .int (nI 0), .int (nI 0), .int (nI 0)])), (b0, .inr (0, [.ref b1, .ref b2, .int (nI 0)])), (b1, .inl (cI, 32, .inl (fun _ => 0))), (b2, .inl (cI, 8, .inl (nA (fun _ => 0)))), (m0, .inr (1, [.ref m1, .int (nI 0)])), (m1, .inl (cI, 24, .inl (nA (fun _ => 0)))), (p0, .inr (2, [.ref p1, .ref p2, .ref p3, .ref p4, .int (nI 0)])), (p1, .inl (cI, 25, .inl (nA (fun _ => 0)))), (p2, .inl (cI, 24, .inl (nA (fun _ => 0)))), (p3, .inl (cI, 24, .inl (fun _ => 0))), (p4, .inl (cI, 24, .inl (nA (fun _ => 0)))), (s0, .inr (2, [.ref s1, .ref s2, .ref s3, .ref s4, .int (nI 0)])), (s1, .inl (cI, 25, .inl (nA (fun _ => 0)))), (s2, .inl (cI, 24, .inl (nA (fun _ => 0)))), (s3, .inl (cI, 24, .inl (fun _ => 0))), (s4, .inl (cI, 24, .inl (nA (fun _ => 0))))]) ⟨hx, hb, hml, hown, hts⟩ (c_X3_init l D cI q0 _) ⟨va_cnB 0 hts gX4_init_X3_init_n35 rfl rfl rfl hE.1 (hts (.initialized RX3) (by decide +kernel)) (by decide +kernel) ⟨Nat.le_of_ble_eq_true rfl, Nat.le_of_ble_eq_true rfl⟩, rfl, hts (.instanceMethod yX3_init) (by decide +kernel)⟩ ⟨hK, hE⟩ hP hD hS hA [16] [0, 1, 2, 3, 4, 5, 6, 7, 8, 9, 10, 11, 12, 13, 14, 15] rfl rfl (by decide) (by decide) (by decide) rfl hl.1 rfl (Nat.le_of_ble_eq_true rfl) dX4_init_53 (Nat.le_of_ble_eq_true rfl) (Nat.le_of_ble_eq_true rfl) (fun v9 u9 H locs hp hP hD hS => ?_)
  obtain rfl := hp
  have hP : va_P D vwCl [(h0, .inr (4, [.ref b0, .ref m0, .ref p0, .ref s0, .null, .int (nI 0), .int (nI 0), .int (nI 0), .int (nI 0), .int (nI 0)])), (b0, .inr (0, [.ref b1, .ref b2, .int (nI 0)])), (b1, .inl (cI, 32, .inl (fun _ => 0))), (b2, .inl (cI, 8, .inl (nA (fun _ => 0)))), (m0, .inr (1, [.ref m1, .int (nI 0)])), (m1, .inl (cI, 24, .inl (nA (fun _ => 0)))), (p0, .inr (2, [.ref p1, .ref p2, .ref p3, .ref p4, .int (nI 0)])), (p1, .inl (cI, 25, .inl (nA (fun _ => 0)))), (p2, .inl (cI, 24, .inl (nA (fun _ => 0)))), (p3, .inl (cI, 24, .inl (fun _ => 0))), (p4, .inl (cI, 24, .inl (nA (fun _ => 0)))), (s0, .inr (2, [.ref s1, .ref s2, .ref s3, .ref s4, .int (nI 0)])), (s1, .inl (cI, 25, .inl (nA (fun _ => 0)))), (s2, .inl (cI, 24, .inl (nA (fun _ => 0)))), (s3, .inl (cI, 24, .inl (fun _ => 0))), (s4, .inl (cI, 24, .inl (nA (fun _ => 0)))), (q0, .inr (3, [.int (nI 0), .int (nI 0), .int (nI 0), .int (nI 0)]))] H := hP
  have hD : va_D A [(h0, .inr (4, [.ref b0, .ref m0, .ref p0, .ref s0, .null, .int (nI 0), .int (nI 0), .int (nI 0), .int (nI 0), .int (nI 0)])), (b0, .inr (0, [.ref b1, .ref b2, .int (nI 0)])), (b1, .inl (cI, 32, .inl (fun _ => 0))), (b2, .inl (cI, 8, .inl (nA (fun _ => 0)))), (m0, .inr (1, [.ref m1, .int (nI 0)])), (m1, .inl (cI, 24, .inl (nA (fun _ => 0)))), (p0, .inr (2, [.ref p1, .ref p2, .ref p3, .ref p4, .int (nI 0)])), (p1, .inl (cI, 25, .inl (nA (fun _ => 0)))), (p2, .inl (cI, 24, .inl (nA (fun _ => 0)))), (p3, .inl (cI, 24, .inl (fun _ => 0))), (p4, .inl (cI, 24, .inl (nA (fun _ => 0)))), (s0, .inr (2, [.ref s1, .ref s2, .ref s3, .ref s4, .int (nI 0)])), (s1, .inl (cI, 25, .inl (nA (fun _ => 0)))), (s2, .inl (cI, 24, .inl (nA (fun _ => 0)))), (s3, .inl (cI, 24, .inl (fun _ => 0))), (s4, .inl (cI, 24, .inl (nA (fun _ => 0)))), (q0, .inr (3, [.int (nI 0), .int (nI 0), .int (nI 0), .int (nI 0)]))] := hD
  refine W.eq (g2 := F0 mi 56 ls [.ref q0, .ref h0]) rfl ?_
  refine va_putF (ty := tyX4 4) hx hb hts (by decide +kernel) tyX4 tyX4_ok nmX4 hown hK hP hD hS 0 rfl rfl 4 (by decide) (hts (.fieldLink RX4 36 "TelegraphDesk" "passage" "LTelegraphDesk$Passage;") (by decide +kernel)) (fun _ h9 => h9) rfl hin rfl (tyX4_ok 4 (by decide)) rfl rfl (Nat.le_of_ble_eq_true rfl) dX4_init_56 (fun H locs hP hD hS => ?_)
  have hP : va_P D vwCl [(h0, .inr (4, [.ref b0, .ref m0, .ref p0, .ref s0, .ref q0, .int (nI 0), .int (nI 0), .int (nI 0), .int (nI 0), .int (nI 0)])), (b0, .inr (0, [.ref b1, .ref b2, .int (nI 0)])), (b1, .inl (cI, 32, .inl (fun _ => 0))), (b2, .inl (cI, 8, .inl (nA (fun _ => 0)))), (m0, .inr (1, [.ref m1, .int (nI 0)])), (m1, .inl (cI, 24, .inl (nA (fun _ => 0)))), (p0, .inr (2, [.ref p1, .ref p2, .ref p3, .ref p4, .int (nI 0)])), (p1, .inl (cI, 25, .inl (nA (fun _ => 0)))), (p2, .inl (cI, 24, .inl (nA (fun _ => 0)))), (p3, .inl (cI, 24, .inl (fun _ => 0))), (p4, .inl (cI, 24, .inl (nA (fun _ => 0)))), (s0, .inr (2, [.ref s1, .ref s2, .ref s3, .ref s4, .int (nI 0)])), (s1, .inl (cI, 25, .inl (nA (fun _ => 0)))), (s2, .inl (cI, 24, .inl (nA (fun _ => 0)))), (s3, .inl (cI, 24, .inl (fun _ => 0))), (s4, .inl (cI, 24, .inl (nA (fun _ => 0)))), (q0, .inr (3, [.int (nI 0), .int (nI 0), .int (nI 0), .int (nI 0)]))] H := hP
  have hD : va_D A [(h0, .inr (4, [.ref b0, .ref m0, .ref p0, .ref s0, .ref q0, .int (nI 0), .int (nI 0), .int (nI 0), .int (nI 0), .int (nI 0)])), (b0, .inr (0, [.ref b1, .ref b2, .int (nI 0)])), (b1, .inl (cI, 32, .inl (fun _ => 0))), (b2, .inl (cI, 8, .inl (nA (fun _ => 0)))), (m0, .inr (1, [.ref m1, .int (nI 0)])), (m1, .inl (cI, 24, .inl (nA (fun _ => 0)))), (p0, .inr (2, [.ref p1, .ref p2, .ref p3, .ref p4, .int (nI 0)])), (p1, .inl (cI, 25, .inl (nA (fun _ => 0)))), (p2, .inl (cI, 24, .inl (nA (fun _ => 0)))), (p3, .inl (cI, 24, .inl (fun _ => 0))), (p4, .inl (cI, 24, .inl (nA (fun _ => 0)))), (s0, .inr (2, [.ref s1, .ref s2, .ref s3, .ref s4, .int (nI 0)])), (s1, .inl (cI, 25, .inl (nA (fun _ => 0)))), (s2, .inl (cI, 24, .inl (nA (fun _ => 0)))), (s3, .inl (cI, 24, .inl (fun _ => 0))), (s4, .inl (cI, 24, .inl (nA (fun _ => 0)))), (q0, .inr (3, [.int (nI 0), .int (nI 0), .int (nI 0), .int (nI 0)]))] := hD
  refine lv_aload_n hx hb dX4_init_59 rfl (lv_at hl 0 rfl) ?_
  refine z_bipush (n := 7) hx hb rfl (by decide) dX4_init_60 ?_
  refine va_put (ty := tyX4 5) hx hb hts (by decide +kernel) tyX4 tyX4_ok nmX4 hown hK hP hD hS 0 rfl rfl 5 (by decide) (hts (.fieldLink RX4 40 "TelegraphDesk" "quality" "I") (by decide +kernel)) (fun _ h9 => h9) rfl (tyX4_ok 5 (by decide)) rfl rfl (Nat.le_of_ble_eq_true rfl) dX4_init_62 (fun H locs hP hD hS => ?_)
  have hP : va_P D vwCl [(h0, .inr (4, [.ref b0, .ref m0, .ref p0, .ref s0, .ref q0, .int (nI 7), .int (nI 0), .int (nI 0), .int (nI 0), .int (nI 0)])), (b0, .inr (0, [.ref b1, .ref b2, .int (nI 0)])), (b1, .inl (cI, 32, .inl (fun _ => 0))), (b2, .inl (cI, 8, .inl (nA (fun _ => 0)))), (m0, .inr (1, [.ref m1, .int (nI 0)])), (m1, .inl (cI, 24, .inl (nA (fun _ => 0)))), (p0, .inr (2, [.ref p1, .ref p2, .ref p3, .ref p4, .int (nI 0)])), (p1, .inl (cI, 25, .inl (nA (fun _ => 0)))), (p2, .inl (cI, 24, .inl (nA (fun _ => 0)))), (p3, .inl (cI, 24, .inl (fun _ => 0))), (p4, .inl (cI, 24, .inl (nA (fun _ => 0)))), (s0, .inr (2, [.ref s1, .ref s2, .ref s3, .ref s4, .int (nI 0)])), (s1, .inl (cI, 25, .inl (nA (fun _ => 0)))), (s2, .inl (cI, 24, .inl (nA (fun _ => 0)))), (s3, .inl (cI, 24, .inl (fun _ => 0))), (s4, .inl (cI, 24, .inl (nA (fun _ => 0)))), (q0, .inr (3, [.int (nI 0), .int (nI 0), .int (nI 0), .int (nI 0)]))] H := hP
  have hD : va_D A [(h0, .inr (4, [.ref b0, .ref m0, .ref p0, .ref s0, .ref q0, .int (nI 7), .int (nI 0), .int (nI 0), .int (nI 0), .int (nI 0)])), (b0, .inr (0, [.ref b1, .ref b2, .int (nI 0)])), (b1, .inl (cI, 32, .inl (fun _ => 0))), (b2, .inl (cI, 8, .inl (nA (fun _ => 0)))), (m0, .inr (1, [.ref m1, .int (nI 0)])), (m1, .inl (cI, 24, .inl (nA (fun _ => 0)))), (p0, .inr (2, [.ref p1, .ref p2, .ref p3, .ref p4, .int (nI 0)])), (p1, .inl (cI, 25, .inl (nA (fun _ => 0)))), (p2, .inl (cI, 24, .inl (nA (fun _ => 0)))), (p3, .inl (cI, 24, .inl (fun _ => 0))), (p4, .inl (cI, 24, .inl (nA (fun _ => 0)))), (s0, .inr (2, [.ref s1, .ref s2, .ref s3, .ref s4, .int (nI 0)])), (s1, .inl (cI, 25, .inl (nA (fun _ => 0)))), (s2, .inl (cI, 24, .inl (nA (fun _ => 0)))), (s3, .inl (cI, 24, .inl (fun _ => 0))), (s4, .inl (cI, 24, .inl (nA (fun _ => 0)))), (q0, .inr (3, [.int (nI 0), .int (nI 0), .int (nI 0), .int (nI 0)]))] := hD
  exact ma_vret hQ hx hb hr hlocks (b0, b1, b2, m0, m1, p0, p1, p2, p3, p4, s0, s1, s2, s3, s4, q0) hP hD hS rfl dX4_init_65
