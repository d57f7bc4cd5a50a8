
abbrev rm_X5_init : Room := { frames := 1, cells := 2, slots := 0, locals := 12 }
set_option maxHeartbeats 4000000 in
set_option maxRecDepth 100000 in
theorem c_X5_init (l : Launch) (D : va_G) (cI : ClassId) (y0 : Nat) (sz : Nat) : MA l yX5_init wsX5_init rm_X5_init D cI [(y0, .inr (5, [.null, .null, .int (nI 0), .int (nI 0), .int (nI 0), .int (nI 0), .int (nI 0)]))] [.ref y0] sz (fun (v9 : Option Value) (u9 : Nat × Nat) => v9 = none) (fun (u9 : Nat × Nat) => [(u9.1, .inl (cI, 0, .inl (nA (fun _ => 0)))), (u9.2, .inl (zQ D, 0, .inr (.inr (.inr (.inr (fun _ => none)))))), (y0, .inr (5, [.ref u9.2, .ref u9.1, .int (nI 7), .int (nI 0), .int (nI 0), .int (nI 0), .int (nI 0)]))]) 2 0 := by
  refine ma_of (C := RX5) (cc := cX5_init) (maxL := 1) (ret := none) rfl (by decide) rfl (Nat.le_of_ble_eq_true rfl) ?_
  intro pg ev sv mi ag bl mt cd ls Q A hA hQ hx hb hr hlocks hml hts hown _ hK hE hD0 H locs hP hS hl
  have hD : zDD A ([y0]) := zDD.of hD0
  have hP : va_P D vwCl [(y0, .inr (5, [.null, .null, .int (nI 0), .int (nI 0), .int (nI 0), .int (nI 0), .int (nI 0)]))] H := hP
  have hl : lv_has ls 1 [(0, .ref y0)] := hl
  have f_9 := hts (.fieldLink RX5 9 "TelegraphDeskLaw$Sim" "codes" "[[I") (by decide +kernel)
  have f_15 := hts (.fieldLink RX5 15 "TelegraphDeskLaw$Sim" "message" "[I") (by decide +kernel)
  have f_18 := hts (.fieldLink RX5 18 "TelegraphDeskLaw$Sim" "quality" "I") (by decide +kernel)
  have hi_5 : ∀ w ∈ wsX50, w ∈ wsX5_init := by decide +kernel
  refine lv_aload_n hx hb dX5_init_0 rfl (lv_at hl 0 rfl) ?_
  refine W.objInit hx hb hown (hts (.methodLink RX5 1 objectInit) (by decide +kernel)) (hts (.instanceMethod objectInit) (by decide +kernel)) (hts _ (List.mem_cons_of_mem _ (List.mem_append_left _ (List.mem_of_getElem? (i := 2) rfl)))) rfl (by rw [hml]; exact hl.1) rfl dX5_init_1 (Nat.le_of_ble_eq_true rfl) (Nat.le_of_ble_eq_true rfl) ?_
  refine W.eq (g2 := F0 mi 4 ls []) rfl ?_
  refine lv_aload_n hx hb dX5_init_4 rfl (lv_at hl 0 rfl) ?_
  refine lv_iconst (v := nI 0) hx hb dX5_init_5 ci_0 ?_
  refine zq_new (B := 0) hx hb hown (hts (.classLink RX5 7 "[I") (by decide +kernel)) hE hP (hD.to rfl) hS hA (by decide) (by decide) (Nat.le_of_ble_eq_true rfl) (Nat.le_of_ble_eq_true rfl) dX5_init_6 (fun yk H _ hP hD hS => ?_)
  have hP : va_P D vwCl [(yk, .inl (zQ D, 0, .inr (.inr (.inr (.inr (fun _ => none)))))), (y0, .inr (5, [.null, .null, .int (nI 0), .int (nI 0), .int (nI 0), .int (nI 0), .int (nI 0)]))] H := hP
  have hD : zDD A ([yk, y0]) := zDD.of hD
  refine va_put (ty := tyX5 0) hx hb hts hi_5 tyX5 tyX5_ok nmX5 hown hK hP (hD.to rfl) hS 1 rfl rfl 0 (by decide) f_9 (fun _ h9 => h9) rfl (tyX5_ok 0 (by decide)) rfl rfl (Nat.le_of_ble_eq_true rfl) dX5_init_9 (fun H locs hP _ hS => ?_)
  have hP : va_P D vwCl [(yk, .inl (zQ D, 0, .inr (.inr (.inr (.inr (fun _ => none)))))), (y0, .inr (5, [.ref yk, .null, .int (nI 0), .int (nI 0), .int (nI 0), .int (nI 0), .int (nI 0)]))] H := hP
  refine lv_aload_n hx hb dX5_init_12 rfl (lv_at hl 0 rfl) ?_
  refine lv_iconst (v := nI 0) hx hb dX5_init_13 ci_0 ?_
  refine zf_newaN (B := 0) hx hb (hts (.arrayClass .int) (by decide +kernel)) hK hP (hD.to rfl) hS hA (by decide) (by decide) (Nat.le_of_ble_eq_true rfl) (Nat.le_of_ble_eq_true rfl) dX5_init_14 (fun ym H hP hD hS => ?_)
  have hP : va_P D vwCl [(ym, .inl (cI, 0, .inl (nA (fun _ => 0)))), (yk, .inl (zQ D, 0, .inr (.inr (.inr (.inr (fun _ => none)))))), (y0, .inr (5, [.ref yk, .null, .int (nI 0), .int (nI 0), .int (nI 0), .int (nI 0), .int (nI 0)]))] H := hP
  have hD : zDD A ([ym, yk, y0]) := zDD.of hD
  refine va_put (ty := tyX5 1) hx hb hts hi_5 tyX5 tyX5_ok nmX5 hown hK hP (hD.to rfl) hS 2 rfl rfl 1 (by decide) f_15 (fun _ h9 => h9) rfl (tyX5_ok 1 (by decide)) rfl rfl (Nat.le_of_ble_eq_true rfl) dX5_init_16 (fun H locs hP _ hS => ?_)
  have hP : va_P D vwCl [(ym, .inl (cI, 0, .inl (nA (fun _ => 0)))), (yk, .inl (zQ D, 0, .inr (.inr (.inr (.inr (fun _ => none)))))), (y0, .inr (5, [.ref yk, .ref ym, .int (nI 0), .int (nI 0), .int (nI 0), .int (nI 0), .int (nI 0)]))] H := hP
  refine lv_aload_n hx hb dX5_init_19 rfl (lv_at hl 0 rfl) ?_
  refine z_bipush (n := 7) hx hb rfl (by decide) dX5_init_20 ?_
  refine z_put hx hb hts hi_5 tyX5 tyX5_ok nmX5 hown hK hP hD rfl hS 2 rfl rfl 2 (by decide) f_18 (fun _ h => h) rfl (by decide +kernel) (Nat.le_of_ble_eq_true rfl) dX5_init_22 (fun H locs hP hS => ?_)
  have hP : va_P D vwCl [(ym, .inl (cI, 0, .inl (nA (fun _ => 0)))), (yk, .inl (zQ D, 0, .inr (.inr (.inr (.inr (fun _ => none)))))), (y0, .inr (5, [.ref yk, .ref ym, .int (nI 7), .int (nI 0), .int (nI 0), .int (nI 0), .int (nI 0)]))] H := hP
  exact ma_vret hQ hx hb hr hlocks (ym, yk) hP (hD.to rfl) hS rfl dX5_init_25
