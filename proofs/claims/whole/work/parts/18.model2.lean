theorem hd_X5_all : yX5_all.cls = RX5 ∧ yX5_all.cls ≠ "java/lang/invoke/MethodHandle" ∧ yX5_all.cls ≠ "java/lang/invoke/VarHandle" ∧ (parseMethodDescriptor yX5_all.desc).map (fun d => d.parameters.length) = some 0 := by decide +kernel
theorem hd_X5_next : yX5_next.cls = RX5 ∧ yX5_next.cls ≠ "java/lang/invoke/MethodHandle" ∧ yX5_next.cls ≠ "java/lang/invoke/VarHandle" ∧ (parseMethodDescriptor yX5_next.desc).map (fun d => d.parameters.length) = some 1 := by decide +kernel
theorem hd_X5_start : yX5_start.cls = RX5 ∧ yX5_start.cls ≠ "java/lang/invoke/MethodHandle" ∧ yX5_start.cls ≠ "java/lang/invoke/VarHandle" ∧ (parseMethodDescriptor yX5_start.desc).map (fun d => d.parameters.length) = some 1 := by decide +kernel
theorem hd_X5_count : yX5_count.cls = RX5 ∧ yX5_count.cls ≠ "java/lang/invoke/MethodHandle" ∧ yX5_count.cls ≠ "java/lang/invoke/VarHandle" ∧ (parseMethodDescriptor yX5_count.desc).map (fun d => d.parameters.length) = some 0 := by decide +kernel
theorem hd_X5_price : yX5_price.cls = RX5 ∧ yX5_price.cls ≠ "java/lang/invoke/MethodHandle" ∧ yX5_price.cls ≠ "java/lang/invoke/VarHandle" ∧ (parseMethodDescriptor yX5_price.desc).map (fun d => d.parameters.length) = some 1 := by decide +kernel
theorem hd_X5_priceNow : yX5_priceNow.cls = RX5 ∧ yX5_priceNow.cls ≠ "java/lang/invoke/MethodHandle" ∧ yX5_priceNow.cls ≠ "java/lang/invoke/VarHandle" ∧ (parseMethodDescriptor yX5_priceNow.desc).map (fun d => d.parameters.length) = some 0 := by decide +kernel
theorem hd_X5_priceOfWords : yX5_priceOfWords.cls = RX5 ∧ yX5_priceOfWords.cls ≠ "java/lang/invoke/MethodHandle" ∧ yX5_priceOfWords.cls ≠ "java/lang/invoke/VarHandle" ∧ (parseMethodDescriptor yX5_priceOfWords.desc).map (fun d => d.parameters.length) = some 0 := by decide +kernel
theorem hd_X5_go : yX5_go.cls = RX5 ∧ yX5_go.cls ≠ "java/lang/invoke/MethodHandle" ∧ yX5_go.cls ≠ "java/lang/invoke/VarHandle" ∧ (parseMethodDescriptor yX5_go.desc).map (fun d => d.parameters.length) = some 2 := by decide +kernel
theorem hd_X5_codes : yX5_codes.cls = RX5 ∧ yX5_codes.cls ≠ "java/lang/invoke/MethodHandle" ∧ yX5_codes.cls ≠ "java/lang/invoke/VarHandle" ∧ (parseMethodDescriptor yX5_codes.desc).map (fun d => d.parameters.length) = some 0 := by decide +kernel
theorem hd_X5_words : yX5_words.cls = RX5 ∧ yX5_words.cls ≠ "java/lang/invoke/MethodHandle" ∧ yX5_words.cls ≠ "java/lang/invoke/VarHandle" ∧ (parseMethodDescriptor yX5_words.desc).map (fun d => d.parameters.length) = some 0 := by decide +kernel
theorem hd_X5_sentGroups : yX5_sentGroups.cls = RX5 ∧ yX5_sentGroups.cls ≠ "java/lang/invoke/MethodHandle" ∧ yX5_sentGroups.cls ≠ "java/lang/invoke/VarHandle" ∧ (parseMethodDescriptor yX5_sentGroups.desc).map (fun d => d.parameters.length) = some 0 := by decide +kernel
theorem hd_X5_repeats : yX5_repeats.cls = RX5 ∧ yX5_repeats.cls ≠ "java/lang/invoke/MethodHandle" ∧ yX5_repeats.cls ≠ "java/lang/invoke/VarHandle" ∧ (parseMethodDescriptor yX5_repeats.desc).map (fun d => d.parameters.length) = some 0 := by decide +kernel
theorem hd_X5_lost : yX5_lost.cls = RX5 ∧ yX5_lost.cls ≠ "java/lang/invoke/MethodHandle" ∧ yX5_lost.cls ≠ "java/lang/invoke/VarHandle" ∧ (parseMethodDescriptor yX5_lost.desc).map (fun d => d.parameters.length) = some 0 := by decide +kernel
theorem hd_X5_earned : yX5_earned.cls = RX5 ∧ yX5_earned.cls ≠ "java/lang/invoke/MethodHandle" ∧ yX5_earned.cls ≠ "java/lang/invoke/VarHandle" ∧ (parseMethodDescriptor yX5_earned.desc).map (fun d => d.parameters.length) = some 0 := by decide +kernel
theorem hd_X5_clear : yX5_clear.cls = RX5 ∧ yX5_clear.cls ≠ "java/lang/invoke/MethodHandle" ∧ yX5_clear.cls ≠ "java/lang/invoke/VarHandle" ∧ (parseMethodDescriptor yX5_clear.desc).map (fun d => d.parameters.length) = some 0 := by decide +kernel
theorem hd_X5_lengthOf : yX5_lengthOf.cls = RX5 ∧ yX5_lengthOf.cls ≠ "java/lang/invoke/MethodHandle" ∧ yX5_lengthOf.cls ≠ "java/lang/invoke/VarHandle" ∧ (parseMethodDescriptor yX5_lengthOf.desc).map (fun d => d.parameters.length) = some 1 := by decide +kernel
theorem hd_X5_typeOf : yX5_typeOf.cls = RX5 ∧ yX5_typeOf.cls ≠ "java/lang/invoke/MethodHandle" ∧ yX5_typeOf.cls ≠ "java/lang/invoke/VarHandle" ∧ (parseMethodDescriptor yX5_typeOf.desc).map (fun d => d.parameters.length) = some 1 := by decide +kernel
theorem hd_X5_groups : yX5_groups.cls = RX5 ∧ yX5_groups.cls ≠ "java/lang/invoke/MethodHandle" ∧ yX5_groups.cls ≠ "java/lang/invoke/VarHandle" ∧ (parseMethodDescriptor yX5_groups.desc).map (fun d => d.parameters.length) = some 0 := by decide +kernel
theorem hd_X5_codeOf : yX5_codeOf.cls = RX5 ∧ yX5_codeOf.cls ≠ "java/lang/invoke/MethodHandle" ∧ yX5_codeOf.cls ≠ "java/lang/invoke/VarHandle" ∧ (parseMethodDescriptor yX5_codeOf.desc).map (fun d => d.parameters.length) = some 1 := by decide +kernel
theorem hd_X5_startOf : yX5_startOf.cls = RX5 ∧ yX5_startOf.cls ≠ "java/lang/invoke/MethodHandle" ∧ yX5_startOf.cls ≠ "java/lang/invoke/VarHandle" ∧ (parseMethodDescriptor yX5_startOf.desc).map (fun d => d.parameters.length) = some 1 := by decide +kernel
theorem hd_X5_uses : yX5_uses.cls = RX5 ∧ yX5_uses.cls ≠ "java/lang/invoke/MethodHandle" ∧ yX5_uses.cls ≠ "java/lang/invoke/VarHandle" ∧ (parseMethodDescriptor yX5_uses.desc).map (fun d => d.parameters.length) = some 1 := by decide +kernel
theorem hd_X5_usesOf : yX5_usesOf.cls = RX5 ∧ yX5_usesOf.cls ≠ "java/lang/invoke/MethodHandle" ∧ yX5_usesOf.cls ≠ "java/lang/invoke/VarHandle" ∧ (parseMethodDescriptor yX5_usesOf.desc).map (fun d => d.parameters.length) = some 1 := by decide +kernel
theorem hd_X5_counted : yX5_counted.cls = RX5 ∧ yX5_counted.cls ≠ "java/lang/invoke/MethodHandle" ∧ yX5_counted.cls ≠ "java/lang/invoke/VarHandle" ∧ (parseMethodDescriptor yX5_counted.desc).map (fun d => d.parameters.length) = some 0 := by decide +kernel
theorem hd_X5_cost : yX5_cost.cls = RX5 ∧ yX5_cost.cls ≠ "java/lang/invoke/MethodHandle" ∧ yX5_cost.cls ≠ "java/lang/invoke/VarHandle" ∧ (parseMethodDescriptor yX5_cost.desc).map (fun d => d.parameters.length) = some 0 := by decide +kernel
theorem hd_X5_saved : yX5_saved.cls = RX5 ∧ yX5_saved.cls ≠ "java/lang/invoke/MethodHandle" ∧ yX5_saved.cls ≠ "java/lang/invoke/VarHandle" ∧ (parseMethodDescriptor yX5_saved.desc).map (fun d => d.parameters.length) = some 0 := by decide +kernel
theorem hd_X5_until : yX5_until.cls = RX5 ∧ yX5_until.cls ≠ "java/lang/invoke/MethodHandle" ∧ yX5_until.cls ≠ "java/lang/invoke/VarHandle" ∧ (parseMethodDescriptor yX5_until.desc).map (fun d => d.parameters.length) = some 0 := by decide +kernel
theorem hd_X5_untilGarbled : yX5_untilGarbled.cls = RX5 ∧ yX5_untilGarbled.cls ≠ "java/lang/invoke/MethodHandle" ∧ yX5_untilGarbled.cls ≠ "java/lang/invoke/VarHandle" ∧ (parseMethodDescriptor yX5_untilGarbled.desc).map (fun d => d.parameters.length) = some 0 := by decide +kernel
theorem hd_X5_garbled : yX5_garbled.cls = RX5 ∧ yX5_garbled.cls ≠ "java/lang/invoke/MethodHandle" ∧ yX5_garbled.cls ≠ "java/lang/invoke/VarHandle" ∧ (parseMethodDescriptor yX5_garbled.desc).map (fun d => d.parameters.length) = some 0 := by decide +kernel
theorem hd_X5_wouldBeGarbled : yX5_wouldBeGarbled.cls = RX5 ∧ yX5_wouldBeGarbled.cls ≠ "java/lang/invoke/MethodHandle" ∧ yX5_wouldBeGarbled.cls ≠ "java/lang/invoke/VarHandle" ∧ (parseMethodDescriptor yX5_wouldBeGarbled.desc).map (fun d => d.parameters.length) = some 0 := by decide +kernel
theorem hd_X5_again : yX5_again.cls = RX5 ∧ yX5_again.cls ≠ "java/lang/invoke/MethodHandle" ∧ yX5_again.cls ≠ "java/lang/invoke/VarHandle" ∧ (parseMethodDescriptor yX5_again.desc).map (fun d => d.parameters.length) = some 0 := by decide +kernel
theorem hd_X5_repeatsIfSent : yX5_repeatsIfSent.cls = RX5 ∧ yX5_repeatsIfSent.cls ≠ "java/lang/invoke/MethodHandle" ∧ yX5_repeatsIfSent.cls ≠ "java/lang/invoke/VarHandle" ∧ (parseMethodDescriptor yX5_repeatsIfSent.desc).map (fun d => d.parameters.length) = some 0 := by decide +kernel
theorem hd_X5_wanted : yX5_wanted.cls = RX5 ∧ yX5_wanted.cls ≠ "java/lang/invoke/MethodHandle" ∧ yX5_wanted.cls ≠ "java/lang/invoke/VarHandle" ∧ (parseMethodDescriptor yX5_wanted.desc).map (fun d => d.parameters.length) = some 0 := by decide +kernel
theorem hd_X5_qualityWanted : yX5_qualityWanted.cls = RX5 ∧ yX5_qualityWanted.cls ≠ "java/lang/invoke/MethodHandle" ∧ yX5_qualityWanted.cls ≠ "java/lang/invoke/VarHandle" ∧ (parseMethodDescriptor yX5_qualityWanted.desc).map (fun d => d.parameters.length) = some 0 := by decide +kernel
theorem hd_X5_useless : yX5_useless.cls = RX5 ∧ yX5_useless.cls ≠ "java/lang/invoke/MethodHandle" ∧ yX5_useless.cls ≠ "java/lang/invoke/VarHandle" ∧ (parseMethodDescriptor yX5_useless.desc).map (fun d => d.parameters.length) = some 0 := by decide +kernel
theorem hd_X5_uselessCode : yX5_uselessCode.cls = RX5 ∧ yX5_uselessCode.cls ≠ "java/lang/invoke/MethodHandle" ∧ yX5_uselessCode.cls ≠ "java/lang/invoke/VarHandle" ∧ (parseMethodDescriptor yX5_uselessCode.desc).map (fun d => d.parameters.length) = some 0 := by decide +kernel
theorem hd_X5_isGarbled : yX5_isGarbled.cls ≠ "java/lang/invoke/MethodHandle" ∧ yX5_isGarbled.cls ≠ "java/lang/invoke/VarHandle" ∧ (parseMethodDescriptor yX5_isGarbled.desc).map (fun d => d.parameters.length) = some 2 := by decide +kernel
abbrev rm_X5_all : Room := { frames := 2, cells := 0, slots := 0, locals := 51 }
abbrev rm_X5_next : Room := { frames := 0, cells := 0, slots := 0, locals := 0 }
abbrev rm_X5_start : Room := { frames := 1, cells := 0, slots := 0, locals := 21 }
abbrev rm_X5_count : Room := { frames := 2, cells := 0, slots := 0, locals := 51 }
abbrev rm_X5_price : Room := { frames := 1, cells := 0, slots := 0, locals := 24 }
abbrev rm_X5_priceNow : Room := { frames := 3, cells := 0, slots := 0, locals := 73 }
abbrev rm_X5_priceOfWords : Room := { frames := 2, cells := 0, slots := 0, locals := 45 }
abbrev rm_X5_isGarbled : Room := { frames := 0, cells := 0, slots := 0, locals := 0 }
abbrev rm_X5_go : Room := { frames := 1, cells := 0, slots := 0, locals := 21 }
abbrev rm_X5_codes : Room := { frames := 1, cells := 0, slots := 0, locals := 21 }
abbrev rm_X5_words : Room := { frames := 1, cells := 0, slots := 0, locals := 21 }
abbrev rm_X5_sentGroups : Room := { frames := 1, cells := 0, slots := 0, locals := 21 }
abbrev rm_X5_repeats : Room := { frames := 1, cells := 0, slots := 0, locals := 21 }
abbrev rm_X5_lost : Room := { frames := 1, cells := 0, slots := 0, locals := 21 }
abbrev rm_X5_earned : Room := { frames := 1, cells := 0, slots := 0, locals := 21 }
abbrev rm_X5_clear : Room := { frames := 1, cells := 0, slots := 0, locals := 21 }
abbrev rm_X5_lengthOf : Room := { frames := 2, cells := 0, slots := 0, locals := 43 }
abbrev rm_X5_typeOf : Room := { frames := 1, cells := 0, slots := 0, locals := 22 }
abbrev rm_X5_groups : Room := { frames := 3, cells := 0, slots := 0, locals := 71 }
abbrev rm_X5_codeOf : Room := { frames := 3, cells := 0, slots := 0, locals := 71 }
abbrev rm_X5_startOf : Room := { frames := 3, cells := 0, slots := 0, locals := 71 }
abbrev rm_X5_uses : Room := { frames := 2, cells := 0, slots := 0, locals := 51 }
abbrev rm_X5_usesOf : Room := { frames := 3, cells := 0, slots := 0, locals := 74 }
abbrev rm_X5_counted : Room := { frames := 3, cells := 0, slots := 0, locals := 73 }
abbrev rm_X5_cost : Room := { frames := 4, cells := 0, slots := 0, locals := 93 }
abbrev rm_X5_saved : Room := { frames := 4, cells := 0, slots := 0, locals := 93 }
abbrev rm_X5_until : Room := { frames := 1, cells := 0, slots := 0, locals := 21 }
abbrev rm_X5_untilGarbled : Room := { frames := 2, cells := 0, slots := 0, locals := 42 }
abbrev rm_X5_garbled : Room := { frames := 3, cells := 0, slots := 0, locals := 71 }
abbrev rm_X5_wouldBeGarbled : Room := { frames := 4, cells := 0, slots := 0, locals := 91 }
abbrev rm_X5_again : Room := { frames := 3, cells := 0, slots := 0, locals := 71 }
abbrev rm_X5_repeatsIfSent : Room := { frames := 4, cells := 0, slots := 0, locals := 91 }
abbrev rm_X5_wanted : Room := { frames := 3, cells := 0, slots := 0, locals := 71 }
abbrev rm_X5_qualityWanted : Room := { frames := 4, cells := 0, slots := 0, locals := 93 }
abbrev rm_X5_useless : Room := { frames := 3, cells := 0, slots := 0, locals := 71 }
abbrev rm_X5_uselessCode : Room := { frames := 4, cells := 0, slots := 0, locals := 93 }
set_option maxHeartbeats 4000000 in
set_option maxRecDepth 100000 in
theorem c_X5_all (l : Launch) (D : va_G) (cI : ClassId) (y0 : Nat) (y1 : Nat) (y2 : Nat) (y3 : Nat) (y4 : Nat) (y5 : Nat) (th : Nat) (k : Nat) (n : Nat) (q : Nat) (sg : Nat) (rp : Int32) (lo : Int32) (ea : Int32) (go : Nat) (ak : Nat) (gn : Nat) (gf : Nat) (K : Nat → Int32) (Lm : Nat → Nat) (t : Nat → Nat) (f : Nat → Nat) (C : Nat → Int32) (hn : n ≤ 24) (hk : k ≤ 8) (hLk : ∀ c, c < k → 2 ≤ Lm c ∧ Lm c ≤ 4) (hKk : ∀ c, c < k → ¬ K c = -1) : MU l yX5_all wsX5_all rm_X5_all D cI [(y0, .inr (5, [.int (nI th), .int (nI k), .ref y1, .ref y2, .int (nI n), .ref y3, .int (nI q), .int (nI sg), .int rp, .int lo, .int ea, .ref y4, .ref y5, .int (nI go), .int (nI ak), .int (nI gn), .int (nI gf)])), (y1, .inl (cI, 9, .inl K)), (y2, .inl (cI, 9, .inl (nA Lm))), (y3, .inl (cI, 24, .inl (nA t))), (y4, .inl (cI, 25, .inl (nA f))), (y5, .inl (cI, 24, .inl C))] [.ref y0] (fun (v9 : Option Value) (u9 : (Nat → Nat) × (Nat → Int32)) => v9 = some (.int (nI (gM t n K Lm k (-1)))) ∧ (OutM (mtM t n K Lm (-1)) Lm k n u9.1 (fM u9.2 Lm) u9.2 0)) (fun (u9 : (Nat → Nat) × (Nat → Int32)) => [(y0, .inr (5, [.int (nI th), .int (nI k), .ref y1, .ref y2, .int (nI n), .ref y3, .int (nI q), .int (nI sg), .int rp, .int lo, .int ea, .ref y4, .ref y5, .int (nI go), .int (nI ak), .int (nI gn), .int (nI gf)])), (y1, .inl (cI, 9, .inl K)), (y2, .inl (cI, 9, .inl (nA Lm))), (y3, .inl (cI, 24, .inl (nA t))), (y4, .inl (cI, 25, .inl (nA u9.1))), (y5, .inl (cI, 24, .inl u9.2))]) := by
  refine mu_of (C := RX5) (cc := cX5_all) (maxL := 1) (ret := (some .int)) rfl (by decide) rfl (Nat.le_of_ble_eq_true rfl) ?_
  intro pg ev sv mi ag bl mt cd ls Q A hA hQ hx hb hr hlocks hml hts hown hK hE hD H locs hP hS hl
  have hD : zDD A [y0, y1, y2, y3, y4, y5] := hD
  have hl : lv_has ls 1 [(0, .ref y0)] := hl
  have f_36 := hts (.fieldLink RX5 36 "TelegraphDeskModel" "codes" "I") (by decide +kernel)
  have f_23 := hts (.fieldLink RX5 23 "TelegraphDeskModel" "fewest" "[I") (by decide +kernel)
  have hi_5 : ∀ w ∈ wsX50, w ∈ wsX5_all := by decide +kernel
  refine lv_aload_n hx hb dX5_all_0 rfl (lv_at hl 0 rfl) ?_
  refine lv_aload_n hx hb dX5_all_1 rfl (lv_at hl 0 rfl) ?_
  refine va_get (v := .int (nI k)) hx hb hts hi_5 hown hK hP 0 rfl rfl 1 (by decide) f_36 (fun _ h => h) rfl dX5_all_2 ?_
  refine lv_iconst (v := -1) hx hb dX5_all_5 ci_m1 ?_
  refine z_muV (As := [.int (nI k), .int (-1)]) (rest := []) ⟨hx, hb, hml, hown, hts⟩ (c_X5_part l D cI y0 y1 y2 y3 y4 y5 th k n q sg rp lo ea go ak gn gf K Lm t f C k (-1) (by first | assumption | omega) (by omega) (by first | assumption | omega) (by first | assumption | omega)) (cwV 2 hts gX5_all_X5_part rfl rfl rfl hd_X5_part ⟨Nat.le_of_ble_eq_true rfl, Nat.le_of_ble_eq_true rfl⟩) ⟨hK, hE⟩ hP hD rfl hS [0, 1, 2, 3, 4, 5] (by decide) rfl (fun _ => rfl) (va_recv hK hP (ci := 5) (q0 := 0) rfl rfl) rfl hl.1 rfl (Nat.le_of_ble_eq_true rfl) dX5_all_6 (Nat.zero_le _) (Nat.zero_le _) (fun v9 u9 H locs hp hP hS => ?_)
  obtain ⟨f2_6, C2_6⟩ := u9
  obtain ⟨rfl, hom_6⟩ := hp
  try dsimp only at hom_6
  have hP : va_P D vwCl [(y0, .inr (5, [.int (nI th), .int (nI k), .ref y1, .ref y2, .int (nI n), .ref y3, .int (nI q), .int (nI sg), .int rp, .int lo, .int ea, .ref y4, .ref y5, .int (nI go), .int (nI ak), .int (nI gn), .int (nI gf)])), (y1, .inl (cI, 9, .inl K)), (y2, .inl (cI, 9, .inl (nA Lm))), (y3, .inl (cI, 24, .inl (nA t))), (y4, .inl (cI, 25, .inl (nA f2_6))), (y5, .inl (cI, 24, .inl C2_6))] H := hP
  refine W.eq (g2 := F0 mi 9 ls []) rfl ?_
  refine lv_aload_n hx hb dX5_all_9 rfl (lv_at hl 0 rfl) ?_
  refine va_get (v := .ref y4) hx hb hts hi_5 hown hK hP 0 rfl rfl 11 (by decide) f_23 (fun _ h => h) rfl dX5_all_10 ?_
  refine lv_iconst (v := nI 0) hx hb dX5_all_13 ci_0 ?_
  refine z_ialdN hx hb hK hP 4 0 rfl rfl (by omega) (by decide) dX5_all_14 ?_
  exact mu_iret hA hQ hx hb hr hlocks (f2_6, C2_6) hP hS ⟨(by rw [gM_eq (mbm (t := t) (n := n) hLk hKk) hom_6]), hom_6⟩ dX5_all_15
set_option maxHeartbeats 4000000 in
set_option maxRecDepth 100000 in
theorem c_X5_next (l : Launch) (D : va_G) (cI : ClassId) (y0 : Nat) (y1 : Nat) (y2 : Nat) (y3 : Nat) (y4 : Nat) (y5 : Nat) (th : Nat) (k : Nat) (n : Nat) (q : Nat) (sg : Nat) (rp : Int32) (lo : Int32) (ea : Int32) (go : Nat) (ak : Nat) (gn : Nat) (gf : Nat) (Lm : Nat → Nat) (C : Nat → Int32) (w : Nat) (hw : w < 24) (hC1 : C w = -1 ∨ ∃ c, c < 9 ∧ C w = nI c) : RO l yX5_next wsX5_next rm_X5_next D cI [(y0, .inr (5, [.int (nI th), .int (nI k), .ref y1, .ref y2, .int (nI n), .ref y3, .int (nI q), .int (nI sg), .int rp, .int lo, .int ea, .ref y4, .ref y5, .int (nI go), .int (nI ak), .int (nI gn), .int (nI gf)])), (y2, .inl (cI, 9, .inl (nA Lm))), (y5, .inl (cI, 24, .inl C))] [.ref y0, .int (nI w)] (.int (nI (w + fM C Lm w))) := by
  refine ro_of (C := RX5) (cc := cX5_next) (maxL := 2) (ret := (some .int)) rfl (by decide) rfl (Nat.le_of_ble_eq_true rfl) ?_
  intro pg ev sv mi ag bl mt cd ls Q hQ hx hb hr hlocks hml hts hown hK hE hP hl
  have hP : va_P D vwCl [(y0, .inr (5, [.int (nI th), .int (nI k), .ref y1, .ref y2, .int (nI n), .ref y3, .int (nI q), .int (nI sg), .int rp, .int lo, .int ea, .ref y4, .ref y5, .int (nI go), .int (nI ak), .int (nI gn), .int (nI gf)])), (y2, .inl (cI, 9, .inl (nA Lm))), (y5, .inl (cI, 24, .inl C))] sv.heap := hP
  have hl : lv_has ls 2 [(0, .ref y0), (1, .int (nI w))] := hl
  have f_26 := hts (.fieldLink RX5 26 "TelegraphDeskModel" "first" "[I") (by decide +kernel)
  have f_13 := hts (.fieldLink RX5 13 "TelegraphDeskModel" "length" "[I") (by decide +kernel)
  have hi_5 : ∀ w ∈ wsX50, w ∈ wsX5_next := by decide +kernel
  refine lv_iload_n hx hb dX5_next_0 rfl (lv_at hl 1 rfl) ?_
  refine lv_aload_n hx hb dX5_next_1 rfl (lv_at hl 0 rfl) ?_
  refine va_get (v := .ref y5) hx hb hts hi_5 hown hK hP 0 rfl rfl 12 (by decide) f_26 (fun _ h => h) rfl dX5_next_2 ?_
  refine lv_iload_n hx hb dX5_next_5 rfl (lv_at hl 1 rfl) ?_
  refine z_iald hx hb hK hP 2 0 rfl rfl (by omega) (by decide) dX5_next_6 ?_
  refine lv_iconst (v := -1) hx hb dX5_next_7 ci_m1 ?_
  refine lv_icmp_ne (tgt := 15) hx hb dX5_next_8 (by decide) (fun c_8 => ?_) (fun c_8 => ?_)
  · obtain ⟨c9, hc9, hce⟩ := hC1.resolve_left c_8
    refine lv_aload_n hx hb dX5_next_15 rfl (lv_at hl 0 rfl) ?_
    refine va_get (v := .ref y2) hx hb hts hi_5 hown hK hP 0 rfl rfl 3 (by decide) f_13 (fun _ h => h) rfl dX5_next_16 ?_
    refine lv_aload_n hx hb dX5_next_19 rfl (lv_at hl 0 rfl) ?_
    refine va_get (v := .ref y5) hx hb hts hi_5 hown hK hP 0 rfl rfl 12 (by decide) f_26 (fun _ h => h) rfl dX5_next_20 ?_
    refine lv_iload_n hx hb dX5_next_23 rfl (lv_at hl 1 rfl) ?_
    refine z_iald hx hb hK hP 2 0 rfl rfl (by omega) (by decide) dX5_next_24 ?_
    refine z_top (y := nI c9) hce ?_
    refine z_ialdN hx hb hK hP 1 0 rfl rfl (by omega) (by decide) dX5_next_25 ?_
    refine z_iadd hx hb dX5_next_26 ?_
    exact ro_iret hQ hx hb hr hlocks (by unfold fM; first | (rw [if_pos c_8]; done) | (rw [if_neg c_8, hce, nI_clamp (by omega)]; done)) dX5_next_27
  · refine lv_iconst (v := nI 1) hx hb dX5_next_11 ci_1 ?_
    refine lv_goto (tgt := 26) hx hb dX5_next_12 (by decide) ?_
    refine z_iadd hx hb dX5_next_26 ?_
    exact ro_iret hQ hx hb hr hlocks (by unfold fM; first | (rw [if_pos c_8]; done) | (rw [if_neg c_8, hce, nI_clamp (by omega)]; done)) dX5_next_27
set_option maxHeartbeats 4000000 in
set_option maxRecDepth 100000 in
theorem c_X5_start (l : Launch) (D : va_G) (cI : ClassId) (y0 : Nat) (y1 : Nat) (y2 : Nat) (y3 : Nat) (y4 : Nat) (y5 : Nat) (th : Nat) (k : Nat) (n : Nat) (q : Nat) (sg : Nat) (rp : Int32) (lo : Int32) (ea : Int32) (go : Nat) (ak : Nat) (gn : Nat) (gf : Nat) (Lm : Nat → Nat) (C : Nat → Int32) (g : Nat) (hn : n ≤ 24) (hg : g ≤ 24) (hps : ∀ j, j < g → posN (fM C Lm) j < n) (hC : ∀ w, w < n → C w = -1 ∨ ∃ c, c < 9 ∧ C w = nI c) : RO l yX5_start wsX5_start rm_X5_start D cI [(y0, .inr (5, [.int (nI th), .int (nI k), .ref y1, .ref y2, .int (nI n), .ref y3, .int (nI q), .int (nI sg), .int rp, .int lo, .int ea, .ref y4, .ref y5, .int (nI go), .int (nI ak), .int (nI gn), .int (nI gf)])), (y2, .inl (cI, 9, .inl (nA Lm))), (y5, .inl (cI, 24, .inl C))] [.ref y0, .int (nI g)] (.int (nI (posN (fM C Lm) g))) := by
  refine ro_of (C := RX5) (cc := cX5_start) (maxL := 4) (ret := (some .int)) rfl (by decide) rfl (Nat.le_of_ble_eq_true rfl) ?_
  intro pg ev sv mi ag bl mt cd ls Q hQ hx hb hr hlocks hml hts hown hK hE hP hl
  have hP : va_P D vwCl [(y0, .inr (5, [.int (nI th), .int (nI k), .ref y1, .ref y2, .int (nI n), .ref y3, .int (nI q), .int (nI sg), .int rp, .int lo, .int ea, .ref y4, .ref y5, .int (nI go), .int (nI ak), .int (nI gn), .int (nI gf)])), (y2, .inl (cI, 9, .inl (nA Lm))), (y5, .inl (cI, 24, .inl C))] sv.heap := hP
  have hl : lv_has ls 4 [(0, .ref y0), (1, .int (nI g))] := hl
  refine lv_iconst (v := nI 0) hx hb dX5_start_0 ci_0 ?_
  refine lv_istore_n (lv' := [(2, .int (nI 0)), (0, .ref y0), (1, .int (nI g))]) hx hb dX5_start_1 rfl hl (by decide) rfl (fun ls hl => ?_)
  refine lv_iconst (v := nI 0) hx hb dX5_start_2 ci_0 ?_
  refine lv_istore_n (lv' := [(3, .int (nI 0)), (2, .int (nI 0)), (0, .ref y0), (1, .int (nI g))]) hx hb dX5_start_3 rfl hl (by decide) rfl (fun ls hl => ?_)
  have lp_4 : ∀ (Nf : Nat) (i : Nat) (hi : i ≤ g) (hN : g - i < Nf) (ls : Array Slot), lv_has ls 4 [(3, .int (nI i)), (2, .int (nI (posN (fM C Lm) i))), (0, .ref y0), (1, .int (nI g))] → W pg l ev rm_X5_start sv mi ag bl mt cd sv.heap [] 0 0 Q (F0 mi 4 ls []) := by
    intro Nf
    induction Nf with
    | zero =>
      intro i hi hN
      exact absurd hN (Nat.not_lt_zero _)
    | succ Nf ih_4 =>
      intro i hi hN ls hl
      refine lv_iload_n hx hb dX5_start_4 rfl (lv_at hl 0 rfl) ?_
      refine lv_iload_n hx hb dX5_start_5 rfl (lv_at hl 3 rfl) ?_
      skip
      refine z_icmp_ge (tgt := 21) hx hb dX5_start_6 (by decide) (by omega) (by omega) (fun c_6 => ?_) (fun c_6 => ?_)
      · refine lv_iload_n hx hb dX5_start_21 rfl (lv_at hl 1 rfl) ?_
        exact ro_iret hQ hx hb hr hlocks (by rw [show i = g by omega]) dX5_start_22
      · refine lv_aload_n hx hb dX5_start_9 rfl (lv_at hl 2 rfl) ?_
        refine lv_iload_n hx hb dX5_start_10 rfl (lv_at hl 1 rfl) ?_
        refine z_roV (As := [.int (nI (posN (fM C Lm) i))]) (rest := []) ⟨hx, hb, hml, hown, hts⟩ (c_X5_next l D cI y0 y1 y2 y3 y4 y5 th k n q sg rp lo ea go ak gn gf Lm C (posN (fM C Lm) i) (by have := hps i c_6; omega) (hC _ (hps i c_6))) (cwV 1 hts gX5_start_X5_next rfl rfl rfl hd_X5_next ⟨Nat.le_of_ble_eq_true rfl, Nat.le_of_ble_eq_true rfl⟩) ⟨hK, hE⟩ (hP.sub (ws' := [(y0, .inr (5, [.int (nI th), .int (nI k), .ref y1, .ref y2, .int (nI n), .ref y3, .int (nI q), .int (nI sg), .int rp, .int lo, .int ea, .ref y4, .ref y5, .int (nI go), .int (nI ak), .int (nI gn), .int (nI gf)])), (y2, .inl (cI, 9, .inl (nA Lm))), (y5, .inl (cI, 24, .inl C))]) [0, 1, 2] rfl) (va_recv hK hP (ci := 5) (q0 := 0) rfl rfl) rfl hl.1 rfl (Nat.le_of_ble_eq_true rfl) dX5_start_11 (Nat.zero_le _) (Nat.zero_le _) ?_
        refine lv_istore_n (lv' := [(2, .int (nI ((posN (fM C Lm) i) + fM C Lm (posN (fM C Lm) i)))), (3, .int (nI i)), (0, .ref y0), (1, .int (nI g))]) hx hb dX5_start_14 rfl hl (by decide) rfl (fun ls hl => ?_)
        refine lv_iinc (v := nI (i + 1)) (lv' := [(3, .int (nI (i + 1))), (2, .int (nI ((posN (fM C Lm) i) + fM C Lm (posN (fM C Lm) i)))), (0, .ref y0), (1, .int (nI g))]) hx hb dX5_start_15 hl (k := 1) rfl (z_inc1 _) (by decide) rfl (fun ls hl => ?_)
        refine lv_goto (tgt := 4) hx hb dX5_start_18 (by decide) ?_
        exact ih_4 (i + 1) (by omega) (by omega) ls (lv_sub hl [0, 1, 2, 3] rfl)
  exact lp_4 ((g - 0) + 1) 0 (Nat.zero_le _) (Nat.lt_succ_self _) ls hl
set_option maxHeartbeats 4000000 in
set_option maxRecDepth 100000 in
theorem c_X5_count (l : Launch) (D : va_G) (cI : ClassId) (y0 : Nat) (y1 : Nat) (y2 : Nat) (y3 : Nat) (y4 : Nat) (y5 : Nat) (th : Nat) (k : Nat) (n : Nat) (q : Nat) (sg : Nat) (rp : Int32) (lo : Int32) (ea : Int32) (go : Nat) (ak : Nat) (gn : Nat) (gf : Nat) (K : Nat → Int32) (Lm : Nat → Nat) (t : Nat → Nat) (f : Nat → Nat) (C : Nat → Int32) (hn : n ≤ 24) (hk : k ≤ 8) (hLk : ∀ c, c < k → 2 ≤ Lm c ∧ Lm c ≤ 4) (hKk : ∀ c, c < k → ¬ K c = -1) (ht : ∀ j, j < n → t j < 10) : MU l yX5_count wsX5_count rm_X5_count D cI [(y0, .inr (5, [.int (nI th), .int (nI k), .ref y1, .ref y2, .int (nI n), .ref y3, .int (nI q), .int (nI sg), .int rp, .int lo, .int ea, .ref y4, .ref y5, .int (nI go), .int (nI ak), .int (nI gn), .int (nI gf)])), (y1, .inl (cI, 9, .inl K)), (y2, .inl (cI, 9, .inl (nA Lm))), (y3, .inl (cI, 24, .inl (nA t))), (y4, .inl (cI, 25, .inl (nA f))), (y5, .inl (cI, 24, .inl C))] [.ref y0] (fun (v9 : Option Value) (u9 : (Nat → Nat) × (Nat → Int32)) => v9 = some (.int (nI (ctM t n K Lm k)))) (fun (u9 : (Nat → Nat) × (Nat → Int32)) => [(y0, .inr (5, [.int (nI th), .int (nI k), .ref y1, .ref y2, .int (nI n), .ref y3, .int (nI q), .int (nI sg), .int rp, .int lo, .int ea, .ref y4, .ref y5, .int (nI go), .int (nI ak), .int (nI gn), .int (nI gf)])), (y1, .inl (cI, 9, .inl K)), (y2, .inl (cI, 9, .inl (nA Lm))), (y3, .inl (cI, 24, .inl (nA t))), (y4, .inl (cI, 25, .inl (nA u9.1))), (y5, .inl (cI, 24, .inl u9.2))]) := by
  refine mu_of (C := RX5) (cc := cX5_count) (maxL := 3) (ret := (some .int)) rfl (by decide) rfl (Nat.le_of_ble_eq_true rfl) ?_
  intro pg ev sv mi ag bl mt cd ls Q A hA hQ hx hb hr hlocks hml hts hown hK hE hD H locs hP hS hl
  have hD : zDD A [y0, y1, y2, y3, y4, y5] := hD
  have hl : lv_has ls 3 [(0, .ref y0)] := hl
  have f_36 := hts (.fieldLink RX5 36 "TelegraphDeskModel" "codes" "I") (by decide +kernel)
  have f_39 := hts (.fieldLink RX5 39 "TelegraphDeskModel" "words" "I") (by decide +kernel)
  have f_26 := hts (.fieldLink RX5 26 "TelegraphDeskModel" "first" "[I") (by decide +kernel)
  have f_16 := hts (.fieldLink RX5 16 "TelegraphDeskModel" "type" "[I") (by decide +kernel)
  have hi_5 : ∀ w ∈ wsX50, w ∈ wsX5_count := by decide +kernel
  refine lv_aload_n hx hb dX5_count_0 rfl (lv_at hl 0 rfl) ?_
  refine lv_aload_n hx hb dX5_count_1 rfl (lv_at hl 0 rfl) ?_
  refine va_get (v := .int (nI k)) hx hb hts hi_5 hown hK hP 0 rfl rfl 1 (by decide) f_36 (fun _ h => h) rfl dX5_count_2 ?_
  refine lv_iconst (v := -1) hx hb dX5_count_5 ci_m1 ?_
  refine z_muV (As := [.int (nI k), .int (-1)]) (rest := []) ⟨hx, hb, hml, hown, hts⟩ (c_X5_part l D cI y0 y1 y2 y3 y4 y5 th k n q sg rp lo ea go ak gn gf K Lm t f C k (-1) (by first | assumption | omega) (by omega) (by first | assumption | omega) (by first | assumption | omega)) (cwV 2 hts gX5_count_X5_part rfl rfl rfl hd_X5_part ⟨Nat.le_of_ble_eq_true rfl, Nat.le_of_ble_eq_true rfl⟩) ⟨hK, hE⟩ hP hD rfl hS [0, 1, 2, 3, 4, 5] (by decide) rfl (fun _ => rfl) (va_recv hK hP (ci := 5) (q0 := 0) rfl rfl) rfl hl.1 rfl (Nat.le_of_ble_eq_true rfl) dX5_count_6 (Nat.zero_le _) (Nat.zero_le _) (fun v9 u9 H locs hp hP hS => ?_)
  obtain ⟨f2_6, C2_6⟩ := u9
  obtain ⟨rfl, hom_6⟩ := hp
  try dsimp only at hom_6
  have hP : va_P D vwCl [(y0, .inr (5, [.int (nI th), .int (nI k), .ref y1, .ref y2, .int (nI n), .ref y3, .int (nI q), .int (nI sg), .int rp, .int lo, .int ea, .ref y4, .ref y5, .int (nI go), .int (nI ak), .int (nI gn), .int (nI gf)])), (y1, .inl (cI, 9, .inl K)), (y2, .inl (cI, 9, .inl (nA Lm))), (y3, .inl (cI, 24, .inl (nA t))), (y4, .inl (cI, 25, .inl (nA f2_6))), (y5, .inl (cI, 24, .inl C2_6))] H := hP
  refine W.eq (g2 := F0 mi 9 ls []) rfl ?_
  refine lv_iconst (v := nI 0) hx hb dX5_count_9 ci_0 ?_
  refine lv_istore_n (lv' := [(1, .int (nI 0)), (0, .ref y0)]) hx hb dX5_count_10 rfl hl (by decide) rfl (fun ls hl => ?_)
  refine lv_iconst (v := nI 0) hx hb dX5_count_11 ci_0 ?_
  refine lv_istore_n (lv' := [(2, .int (nI 0)), (1, .int (nI 0)), (0, .ref y0)]) hx hb dX5_count_12 rfl hl (by decide) rfl (fun ls hl => ?_)
  have lp_13 : ∀ (Nf : Nat) (g : Nat) (ac : Nat) (hp : posN (fM C2_6 Lm) g ≤ n) (hps : ∀ j, j < g → posN (fM C2_6 Lm) j < n) (hac : ac = sN (ctW C2_6 (posN (fM C2_6 Lm)) t) g) (hN : n - posN (fM C2_6 Lm) g < Nf) (H : Heap) (locs : List Loc) (ls : Array Slot), va_P D vwCl [(y0, .inr (5, [.int (nI th), .int (nI k), .ref y1, .ref y2, .int (nI n), .ref y3, .int (nI q), .int (nI sg), .int rp, .int lo, .int ea, .ref y4, .ref y5, .int (nI go), .int (nI ak), .int (nI gn), .int (nI gf)])), (y1, .inl (cI, 9, .inl K)), (y2, .inl (cI, 9, .inl (nA Lm))), (y3, .inl (cI, 24, .inl (nA t))), (y4, .inl (cI, 25, .inl (nA f2_6))), (y5, .inl (cI, 24, .inl C2_6))] H → va_S A sv.heap H locs → lv_has ls 3 [(2, .int (nI (posN (fM C2_6 Lm) g))), (1, .int (nI ac)), (0, .ref y0)] → W pg l ev rm_X5_count sv mi ag bl mt cd H locs 0 0 Q (F0 mi 13 ls []) := by
    intro Nf
    induction Nf with
    | zero =>
      intro g ac hp hps hac hN
      exact absurd hN (Nat.not_lt_zero _)
    | succ Nf ih_13 =>
      intro g ac hp hps hac hN H locs ls hP hS hl
      refine lv_iload_n hx hb dX5_count_13 rfl (lv_at hl 0 rfl) ?_
      refine lv_aload_n hx hb dX5_count_14 rfl (lv_at hl 2 rfl) ?_
      refine va_get (v := .int (nI n)) hx hb hts hi_5 hown hK hP 0 rfl rfl 4 (by decide) f_39 (fun _ h => h) rfl dX5_count_15 ?_
      refine z_icmp_ge (tgt := 59) hx hb dX5_count_18 (by decide) (by omega) (by omega) (fun c_18 => ?_) (fun c_18 => ?_)
      · refine lv_iload_n hx hb dX5_count_59 rfl (lv_at hl 1 rfl) ?_
        exact mu_iret hA hQ hx hb hr hlocks (f2_6, C2_6) hP hS (by rw [hac, ctM_eq (mbm (t := t) (n := n) hLk hKk) hom_6 ⟨hps, by omega⟩]) dX5_count_60
      · have hty := ht _ c_18
        refine lv_iload_n hx hb dX5_count_21 rfl (lv_at hl 1 rfl) ?_
        refine lv_aload_n hx hb dX5_count_22 rfl (lv_at hl 2 rfl) ?_
        refine va_get (v := .ref y5) hx hb hts hi_5 hown hK hP 0 rfl rfl 12 (by decide) f_26 (fun _ h => h) rfl dX5_count_23 ?_
        refine lv_iload_n hx hb dX5_count_26 rfl (lv_at hl 0 rfl) ?_
        refine z_iald hx hb hK hP 5 0 rfl rfl (by omega) (by decide) dX5_count_27 ?_
        refine lv_iconst (v := -1) hx hb dX5_count_28 ci_m1 ?_
        refine lv_icmp_ne (tgt := 47) hx hb dX5_count_29 (by decide) (fun c_29 => ?_) (fun c_29 => ?_)
        · refine lv_iconst (v := nI 1) hx hb dX5_count_47 ci_1 ?_
          refine z_iadd hx hb dX5_count_48 ?_
          refine lv_istore_n (lv' := [(1, .int (nI (ac + 1))), (2, .int (nI (posN (fM C2_6 Lm) g))), (0, .ref y0)]) hx hb dX5_count_49 rfl hl (by decide) rfl (fun ls hl => ?_)
          refine lv_aload_n hx hb dX5_count_50 rfl (lv_at hl 2 rfl) ?_
          refine lv_iload_n hx hb dX5_count_51 rfl (lv_at hl 1 rfl) ?_
          refine z_roV (As := [.int (nI (posN (fM C2_6 Lm) g))]) (rest := []) ⟨hx, hb, hml, hown, hts⟩ (c_X5_next l D cI y0 y1 y2 y3 y4 y5 th k n q sg rp lo ea go ak gn gf Lm C2_6 (posN (fM C2_6 Lm) g) (by omega) (om_C (by omega) hom_6 _ c_18)) (cwV 1 hts gX5_count_X5_next rfl rfl rfl hd_X5_next ⟨Nat.le_of_ble_eq_true rfl, Nat.le_of_ble_eq_true rfl⟩) ⟨hK, hE⟩ (hP.sub (ws' := [(y0, .inr (5, [.int (nI th), .int (nI k), .ref y1, .ref y2, .int (nI n), .ref y3, .int (nI q), .int (nI sg), .int rp, .int lo, .int ea, .ref y4, .ref y5, .int (nI go), .int (nI ak), .int (nI gn), .int (nI gf)])), (y2, .inl (cI, 9, .inl (nA Lm))), (y5, .inl (cI, 24, .inl C2_6))]) [0, 2, 5] rfl) (va_recv hK hP (ci := 5) (q0 := 0) rfl rfl) rfl hl.1 rfl (Nat.le_of_ble_eq_true rfl) dX5_count_52 (Nat.zero_le _) (Nat.zero_le _) ?_
          refine lv_istore_n (lv' := [(2, .int (nI ((posN (fM C2_6 Lm) g) + fM C2_6 Lm (posN (fM C2_6 Lm) g)))), (1, .int (nI (ac + 1))), (0, .ref y0)]) hx hb dX5_count_55 rfl hl (by decide) rfl (fun ls hl => ?_)
          refine lv_goto (tgt := 13) hx hb dX5_count_56 (by decide) ?_
          have h9 := hom_6.2.2.2 _ (Nat.zero_le _) c_18
          exact ih_13 (g + 1) (ac + 1) (show posN (fM C2_6 Lm) g + fM C2_6 Lm (posN (fM C2_6 Lm) g) ≤ n from h9.2.1) (lt_s hps c_18) (by first | (have h8 : ctW C2_6 (posN (fM C2_6 Lm)) t g = 1 := zif_f c_29; show ac + 1 = sN _ g + ctW _ _ _ g; omega) | (have h8 : ctW C2_6 (posN (fM C2_6 Lm)) t g = 1 := (zif_t c_29).trans (if_neg (by omega)); show ac + 1 = sN _ g + ctW _ _ _ g; omega) | (have h8 : ctW C2_6 (posN (fM C2_6 Lm)) t g = 2 := (zif_t c_29).trans (if_pos (by omega)); show ac + 2 = sN _ g + ctW _ _ _ g; omega)) (show n - (posN (fM C2_6 Lm) g + fM C2_6 Lm (posN (fM C2_6 Lm) g)) < Nf by omega) H locs ls hP hS (lv_sub hl [0, 1, 2] rfl)
        · refine lv_aload_n hx hb dX5_count_32 rfl (lv_at hl 2 rfl) ?_
          refine va_get (v := .ref y3) hx hb hts hi_5 hown hK hP 0 rfl rfl 5 (by decide) f_16 (fun _ h => h) rfl dX5_count_33 ?_
          refine lv_iload_n hx hb dX5_count_36 rfl (lv_at hl 0 rfl) ?_
          refine z_ialdN hx hb hK hP 3 0 rfl rfl (by omega) (by decide) dX5_count_37 ?_
          refine z_bipush (n := 7) hx hb rfl (by decide) dX5_count_38 ?_
          refine z_icmp_le (tgt := 47) hx hb dX5_count_40 (by decide) (by omega) (by omega) (fun c_40 => ?_) (fun c_40 => ?_)
          · refine lv_iconst (v := nI 1) hx hb dX5_count_47 ci_1 ?_
            refine z_iadd hx hb dX5_count_48 ?_
            refine lv_istore_n (lv' := [(1, .int (nI (ac + 1))), (2, .int (nI (posN (fM C2_6 Lm) g))), (0, .ref y0)]) hx hb dX5_count_49 rfl hl (by decide) rfl (fun ls hl => ?_)
            refine lv_aload_n hx hb dX5_count_50 rfl (lv_at hl 2 rfl) ?_
            refine lv_iload_n hx hb dX5_count_51 rfl (lv_at hl 1 rfl) ?_
            refine z_roV (As := [.int (nI (posN (fM C2_6 Lm) g))]) (rest := []) ⟨hx, hb, hml, hown, hts⟩ (c_X5_next l D cI y0 y1 y2 y3 y4 y5 th k n q sg rp lo ea go ak gn gf Lm C2_6 (posN (fM C2_6 Lm) g) (by omega) (om_C (by omega) hom_6 _ c_18)) (cwV 1 hts gX5_count_X5_next rfl rfl rfl hd_X5_next ⟨Nat.le_of_ble_eq_true rfl, Nat.le_of_ble_eq_true rfl⟩) ⟨hK, hE⟩ (hP.sub (ws' := [(y0, .inr (5, [.int (nI th), .int (nI k), .ref y1, .ref y2, .int (nI n), .ref y3, .int (nI q), .int (nI sg), .int rp, .int lo, .int ea, .ref y4, .ref y5, .int (nI go), .int (nI ak), .int (nI gn), .int (nI gf)])), (y2, .inl (cI, 9, .inl (nA Lm))), (y5, .inl (cI, 24, .inl C2_6))]) [0, 2, 5] rfl) (va_recv hK hP (ci := 5) (q0 := 0) rfl rfl) rfl hl.1 rfl (Nat.le_of_ble_eq_true rfl) dX5_count_52 (Nat.zero_le _) (Nat.zero_le _) ?_
            refine lv_istore_n (lv' := [(2, .int (nI ((posN (fM C2_6 Lm) g) + fM C2_6 Lm (posN (fM C2_6 Lm) g)))), (1, .int (nI (ac + 1))), (0, .ref y0)]) hx hb dX5_count_55 rfl hl (by decide) rfl (fun ls hl => ?_)
            refine lv_goto (tgt := 13) hx hb dX5_count_56 (by decide) ?_
            have h9 := hom_6.2.2.2 _ (Nat.zero_le _) c_18
            exact ih_13 (g + 1) (ac + 1) (show posN (fM C2_6 Lm) g + fM C2_6 Lm (posN (fM C2_6 Lm) g) ≤ n from h9.2.1) (lt_s hps c_18) (by first | (have h8 : ctW C2_6 (posN (fM C2_6 Lm)) t g = 1 := zif_f c_29; show ac + 1 = sN _ g + ctW _ _ _ g; omega) | (have h8 : ctW C2_6 (posN (fM C2_6 Lm)) t g = 1 := (zif_t c_29).trans (if_neg (by omega)); show ac + 1 = sN _ g + ctW _ _ _ g; omega) | (have h8 : ctW C2_6 (posN (fM C2_6 Lm)) t g = 2 := (zif_t c_29).trans (if_pos (by omega)); show ac + 2 = sN _ g + ctW _ _ _ g; omega)) (show n - (posN (fM C2_6 Lm) g + fM C2_6 Lm (posN (fM C2_6 Lm) g)) < Nf by omega) H locs ls hP hS (lv_sub hl [0, 1, 2] rfl)
          · refine lv_iconst (v := nI 2) hx hb dX5_count_43 ci_2 ?_
            refine lv_goto (tgt := 48) hx hb dX5_count_44 (by decide) ?_
            refine z_iadd hx hb dX5_count_48 ?_
            refine lv_istore_n (lv' := [(1, .int (nI (ac + 2))), (2, .int (nI (posN (fM C2_6 Lm) g))), (0, .ref y0)]) hx hb dX5_count_49 rfl hl (by decide) rfl (fun ls hl => ?_)
            refine lv_aload_n hx hb dX5_count_50 rfl (lv_at hl 2 rfl) ?_
            refine lv_iload_n hx hb dX5_count_51 rfl (lv_at hl 1 rfl) ?_
            refine z_roV (As := [.int (nI (posN (fM C2_6 Lm) g))]) (rest := []) ⟨hx, hb, hml, hown, hts⟩ (c_X5_next l D cI y0 y1 y2 y3 y4 y5 th k n q sg rp lo ea go ak gn gf Lm C2_6 (posN (fM C2_6 Lm) g) (by omega) (om_C (by omega) hom_6 _ c_18)) (cwV 1 hts gX5_count_X5_next rfl rfl rfl hd_X5_next ⟨Nat.le_of_ble_eq_true rfl, Nat.le_of_ble_eq_true rfl⟩) ⟨hK, hE⟩ (hP.sub (ws' := [(y0, .inr (5, [.int (nI th), .int (nI k), .ref y1, .ref y2, .int (nI n), .ref y3, .int (nI q), .int (nI sg), .int rp, .int lo, .int ea, .ref y4, .ref y5, .int (nI go), .int (nI ak), .int (nI gn), .int (nI gf)])), (y2, .inl (cI, 9, .inl (nA Lm))), (y5, .inl (cI, 24, .inl C2_6))]) [0, 2, 5] rfl) (va_recv hK hP (ci := 5) (q0 := 0) rfl rfl) rfl hl.1 rfl (Nat.le_of_ble_eq_true rfl) dX5_count_52 (Nat.zero_le _) (Nat.zero_le _) ?_
            refine lv_istore_n (lv' := [(2, .int (nI ((posN (fM C2_6 Lm) g) + fM C2_6 Lm (posN (fM C2_6 Lm) g)))), (1, .int (nI (ac + 2))), (0, .ref y0)]) hx hb dX5_count_55 rfl hl (by decide) rfl (fun ls hl => ?_)
            refine lv_goto (tgt := 13) hx hb dX5_count_56 (by decide) ?_
            have h9 := hom_6.2.2.2 _ (Nat.zero_le _) c_18
            exact ih_13 (g + 1) (ac + 2) (show posN (fM C2_6 Lm) g + fM C2_6 Lm (posN (fM C2_6 Lm) g) ≤ n from h9.2.1) (lt_s hps c_18) (by first | (have h8 : ctW C2_6 (posN (fM C2_6 Lm)) t g = 1 := zif_f c_29; show ac + 1 = sN _ g + ctW _ _ _ g; omega) | (have h8 : ctW C2_6 (posN (fM C2_6 Lm)) t g = 1 := (zif_t c_29).trans (if_neg (by omega)); show ac + 1 = sN _ g + ctW _ _ _ g; omega) | (have h8 : ctW C2_6 (posN (fM C2_6 Lm)) t g = 2 := (zif_t c_29).trans (if_pos (by omega)); show ac + 2 = sN _ g + ctW _ _ _ g; omega)) (show n - (posN (fM C2_6 Lm) g + fM C2_6 Lm (posN (fM C2_6 Lm) g)) < Nf by omega) H locs ls hP hS (lv_sub hl [0, 1, 2] rfl)
  exact lp_13 ((n - posN (fM C2_6 Lm) 0) + 1) 0 0 (Nat.zero_le _) (fun _ h => absurd h (Nat.not_lt_zero _)) rfl (Nat.lt_succ_self _) H locs ls hP hS hl
set_option maxHeartbeats 4000000 in
set_option maxRecDepth 100000 in
theorem c_X5_price (l : Launch) (D : va_G) (cI : ClassId) (y0 : Nat) (y1 : Nat) (y2 : Nat) (y3 : Nat) (y4 : Nat) (y5 : Nat) (th : Nat) (k : Nat) (n : Nat) (q : Nat) (sg : Nat) (rp : Int32) (lo : Int32) (ea : Int32) (go : Nat) (ak : Nat) (gn : Nat) (gf : Nat) (x : Nat) (hn : n ≤ 24) (hx : x ≤ 1000) : RO l yX5_price wsX5_price rm_X5_price D cI [(y0, .inr (5, [.int (nI th), .int (nI k), .ref y1, .ref y2, .int (nI n), .ref y3, .int (nI q), .int (nI sg), .int rp, .int lo, .int ea, .ref y4, .ref y5, .int (nI go), .int (nI ak), .int (nI gn), .int (nI gf)]))] [.ref y0, .int (nI x)] (.int (nI (costN n x))) := by
  refine ro_of (C := RX5) (cc := cX5_price) (maxL := 2) (ret := (some .int)) rfl (by decide) rfl (Nat.le_of_ble_eq_true rfl) ?_
  intro pg ev sv mi ag bl mt cd ls Q hQ hx hb hr hlocks hml hts hown hK hE hP hl
  have hP : va_P D vwCl [(y0, .inr (5, [.int (nI th), .int (nI k), .ref y1, .ref y2, .int (nI n), .ref y3, .int (nI q), .int (nI sg), .int rp, .int lo, .int ea, .ref y4, .ref y5, .int (nI go), .int (nI ak), .int (nI gn), .int (nI gf)]))] sv.heap := hP
  have hl : lv_has ls 2 [(0, .ref y0), (1, .int (nI x))] := hl
  have f_39 := hts (.fieldLink RX5 39 "TelegraphDeskModel" "words" "I") (by decide +kernel)
  have hi_5 : ∀ w ∈ wsX50, w ∈ wsX5_price := by decide +kernel
  refine lv_aload_n hx hb dX5_price_0 rfl (lv_at hl 0 rfl) ?_
  refine va_get (v := .int (nI n)) hx hb hts hi_5 hown hK hP 0 rfl rfl 4 (by decide) f_39 (fun _ h => h) rfl dX5_price_1 ?_
  refine z_if_ne (tgt := 11) hx hb dX5_price_4 (by decide) (by omega) (fun c_4 => ?_) (fun c_4 => ?_)
  · refine z_bipush (n := 20) hx hb rfl (by decide) dX5_price_11 ?_
    refine lv_iconst (v := nI 3) hx hb dX5_price_13 ci_3 ?_
    refine lv_iconst (v := nI 0) hx hb dX5_price_14 ci_0 ?_
    refine lv_iload_n hx hb dX5_price_15 rfl (lv_at hl 1 rfl) ?_
    refine z_bipush (n := 10) hx hb rfl (by decide) dX5_price_16 ?_
    refine lv_isub hx hb dX5_price_18 ?_
    refine va_mmax hx hb (by rw [hml]; exact hl.1.symm) hown (hts (.methodLink RX5 54 Lib.Math.max.name) (by decide +kernel)) (hts (.static Lib.Math.max.name) (by decide +kernel)) (hts (.initialized "java/lang/Math") (by decide +kernel)) (hts (.code Lib.Math.max.name Lib.Math.max.code 2 (some .int)) (by decide +kernel)) (Nat.le_of_ble_eq_true rfl) (Nat.le_of_ble_eq_true rfl) (Nat.zero_le _) (Nat.zero_le _) dX5_price_19 ?_
    refine z_top (y := nI (x - 10)) (z_maxs (by omega)) ?_
    refine z_imul hx hb dX5_price_22 ?_
    refine z_iadd hx hb dX5_price_23 ?_
    exact ro_iret hQ hx hb hr hlocks (by first | (rw [costN, if_pos c_4]; done) | (rw [costN, if_neg (by omega)]; done)) dX5_price_24
  · refine lv_iconst (v := nI 0) hx hb dX5_price_7 ci_0 ?_
    refine lv_goto (tgt := 24) hx hb dX5_price_8 (by decide) ?_
    exact ro_iret hQ hx hb hr hlocks (by first | (rw [costN, if_pos c_4]; done) | (rw [costN, if_neg (by omega)]; done)) dX5_price_24
set_option maxHeartbeats 4000000 in
set_option maxRecDepth 100000 in
theorem c_X5_priceNow (l : Launch) (D : va_G) (cI : ClassId) (y0 : Nat) (y1 : Nat) (y2 : Nat) (y3 : Nat) (y4 : Nat) (y5 : Nat) (th : Nat) (k : Nat) (n : Nat) (q : Nat) (sg : Nat) (rp : Int32) (lo : Int32) (ea : Int32) (go : Nat) (ak : Nat) (gn : Nat) (gf : Nat) (K : Nat → Int32) (Lm : Nat → Nat) (t : Nat → Nat) (f : Nat → Nat) (C : Nat → Int32) (hn : n ≤ 24) (hk : k ≤ 8) (hLk : ∀ c, c < k → 2 ≤ Lm c ∧ Lm c ≤ 4) (hKk : ∀ c, c < k → ¬ K c = -1) (ht : ∀ j, j < n → t j < 10) : MU l yX5_priceNow wsX5_priceNow rm_X5_priceNow D cI [(y0, .inr (5, [.int (nI th), .int (nI k), .ref y1, .ref y2, .int (nI n), .ref y3, .int (nI q), .int (nI sg), .int rp, .int lo, .int ea, .ref y4, .ref y5, .int (nI go), .int (nI ak), .int (nI gn), .int (nI gf)])), (y1, .inl (cI, 9, .inl K)), (y2, .inl (cI, 9, .inl (nA Lm))), (y3, .inl (cI, 24, .inl (nA t))), (y4, .inl (cI, 25, .inl (nA f))), (y5, .inl (cI, 24, .inl C))] [.ref y0] (fun (v9 : Option Value) (u9 : (Nat → Nat) × (Nat → Int32)) => v9 = some (.int (nI (costN n (ctM t n K Lm k))))) (fun (u9 : (Nat → Nat) × (Nat → Int32)) => [(y0, .inr (5, [.int (nI th), .int (nI k), .ref y1, .ref y2, .int (nI n), .ref y3, .int (nI q), .int (nI sg), .int rp, .int lo, .int ea, .ref y4, .ref y5, .int (nI go), .int (nI ak), .int (nI gn), .int (nI gf)])), (y1, .inl (cI, 9, .inl K)), (y2, .inl (cI, 9, .inl (nA Lm))), (y3, .inl (cI, 24, .inl (nA t))), (y4, .inl (cI, 25, .inl (nA u9.1))), (y5, .inl (cI, 24, .inl u9.2))]) := by
  refine mu_of (C := RX5) (cc := cX5_priceNow) (maxL := 1) (ret := (some .int)) rfl (by decide) rfl (Nat.le_of_ble_eq_true rfl) ?_
  intro pg ev sv mi ag bl mt cd ls Q A hA hQ hx hb hr hlocks hml hts hown hK hE hD H locs hP hS hl
  have hD : zDD A [y0, y1, y2, y3, y4, y5] := hD
  have hl : lv_has ls 1 [(0, .ref y0)] := hl
  refine lv_aload_n hx hb dX5_priceNow_0 rfl (lv_at hl 0 rfl) ?_
  refine lv_aload_n hx hb dX5_priceNow_1 rfl (lv_at hl 0 rfl) ?_
  refine z_muV (As := []) (rest := [.ref y0]) ⟨hx, hb, hml, hown, hts⟩ (c_X5_count l D cI y0 y1 y2 y3 y4 y5 th k n q sg rp lo ea go ak gn gf K Lm t f C (by first | assumption | omega) (by first | assumption | omega) (by first | assumption | omega) (by first | assumption | omega) (by first | assumption | omega)) (cwV 0 hts gX5_priceNow_X5_count rfl rfl rfl hd_X5_count ⟨Nat.le_of_ble_eq_true rfl, Nat.le_of_ble_eq_true rfl⟩) ⟨hK, hE⟩ hP hD rfl hS [0, 1, 2, 3, 4, 5] (by decide) rfl (fun _ => rfl) (va_recv hK hP (ci := 5) (q0 := 0) rfl rfl) rfl hl.1 rfl (Nat.le_of_ble_eq_true rfl) dX5_priceNow_2 (Nat.zero_le _) (Nat.zero_le _) (fun v9 u9 H locs hp hP hS => ?_)
  obtain ⟨f2_2, C2_2⟩ := u9
  obtain rfl := hp
  have hP : va_P D vwCl [(y0, .inr (5, [.int (nI th), .int (nI k), .ref y1, .ref y2, .int (nI n), .ref y3, .int (nI q), .int (nI sg), .int rp, .int lo, .int ea, .ref y4, .ref y5, .int (nI go), .int (nI ak), .int (nI gn), .int (nI gf)])), (y1, .inl (cI, 9, .inl K)), (y2, .inl (cI, 9, .inl (nA Lm))), (y3, .inl (cI, 24, .inl (nA t))), (y4, .inl (cI, 25, .inl (nA f2_2))), (y5, .inl (cI, 24, .inl C2_2))] H := hP
  refine W.eq (g2 := F0 mi 5 ls [.int (nI (ctM t n K Lm k)), .ref y0]) rfl ?_
  have hcl := ctM_le t n K Lm k
  have hgl := gM_leU (t := t) (n := n) (bu := -1) hLk hKk
  refine z_roV (As := [.int (nI (ctM t n K Lm k))]) (rest := []) ⟨hx, hb, hml, hown, hts⟩ (c_X5_price l D cI y0 y1 y2 y3 y4 y5 th k n q sg rp lo ea go ak gn gf (ctM t n K Lm k) (by first | assumption | omega) (by omega)) (cwV 1 hts gX5_priceNow_X5_price rfl rfl rfl hd_X5_price ⟨Nat.le_of_ble_eq_true rfl, Nat.le_of_ble_eq_true rfl⟩) ⟨hK, hE⟩ (hP.sub (ws' := [(y0, .inr (5, [.int (nI th), .int (nI k), .ref y1, .ref y2, .int (nI n), .ref y3, .int (nI q), .int (nI sg), .int rp, .int lo, .int ea, .ref y4, .ref y5, .int (nI go), .int (nI ak), .int (nI gn), .int (nI gf)]))]) [0] rfl) (va_recv hK hP (ci := 5) (q0 := 0) rfl rfl) rfl hl.1 rfl (Nat.le_of_ble_eq_true rfl) dX5_priceNow_5 (Nat.zero_le _) (Nat.zero_le _) ?_
  exact mu_iret hA hQ hx hb hr hlocks (f2_2, C2_2) hP hS rfl dX5_priceNow_8
set_option maxHeartbeats 4000000 in
set_option maxRecDepth 100000 in
theorem c_X5_priceOfWords (l : Launch) (D : va_G) (cI : ClassId) (y0 : Nat) (y1 : Nat) (y2 : Nat) (y3 : Nat) (y4 : Nat) (y5 : Nat) (th : Nat) (k : Nat) (n : Nat) (q : Nat) (sg : Nat) (rp : Int32) (lo : Int32) (ea : Int32) (go : Nat) (ak : Nat) (gn : Nat) (gf : Nat) (t : Nat → Nat) (hn : n ≤ 24) (ht : ∀ j, j < n → t j < 10) : RO l yX5_priceOfWords wsX5_priceOfWords rm_X5_priceOfWords D cI [(y0, .inr (5, [.int (nI th), .int (nI k), .ref y1, .ref y2, .int (nI n), .ref y3, .int (nI q), .int (nI sg), .int rp, .int lo, .int ea, .ref y4, .ref y5, .int (nI go), .int (nI ak), .int (nI gn), .int (nI gf)])), (y3, .inl (cI, 24, .inl (nA t)))] [.ref y0] (.int (nI (costN n (sN (fun j => wc (t j)) n)))) := by
  refine ro_of (C := RX5) (cc := cX5_priceOfWords) (maxL := 3) (ret := (some .int)) rfl (by decide) rfl (Nat.le_of_ble_eq_true rfl) ?_
  intro pg ev sv mi ag bl mt cd ls Q hQ hx hb hr hlocks hml hts hown hK hE hP hl
  have hP : va_P D vwCl [(y0, .inr (5, [.int (nI th), .int (nI k), .ref y1, .ref y2, .int (nI n), .ref y3, .int (nI q), .int (nI sg), .int rp, .int lo, .int ea, .ref y4, .ref y5, .int (nI go), .int (nI ak), .int (nI gn), .int (nI gf)])), (y3, .inl (cI, 24, .inl (nA t)))] sv.heap := hP
  have hl : lv_has ls 3 [(0, .ref y0)] := hl
  have f_39 := hts (.fieldLink RX5 39 "TelegraphDeskModel" "words" "I") (by decide +kernel)
  have f_16 := hts (.fieldLink RX5 16 "TelegraphDeskModel" "type" "[I") (by decide +kernel)
  have hi_5 : ∀ w ∈ wsX50, w ∈ wsX5_priceOfWords := by decide +kernel
  refine lv_iconst (v := nI 0) hx hb dX5_priceOfWords_0 ci_0 ?_
  refine lv_istore_n (lv' := [(1, .int (nI 0)), (0, .ref y0)]) hx hb dX5_priceOfWords_1 rfl hl (by decide) rfl (fun ls hl => ?_)
  refine lv_iconst (v := nI 0) hx hb dX5_priceOfWords_2 ci_0 ?_
  refine lv_istore_n (lv' := [(2, .int (nI 0)), (1, .int (nI 0)), (0, .ref y0)]) hx hb dX5_priceOfWords_3 rfl hl (by decide) rfl (fun ls hl => ?_)
  have lp_4 : ∀ (Nf : Nat) (i : Nat) (ac : Nat) (hi : i ≤ n) (hac : ac = sN (fun j => wc (t j)) i) (hN : n - i < Nf) (ls : Array Slot), lv_has ls 3 [(2, .int (nI i)), (1, .int (nI ac)), (0, .ref y0)] → W pg l ev rm_X5_priceOfWords sv mi ag bl mt cd sv.heap [] 0 0 Q (F0 mi 4 ls []) := by
    intro Nf
    induction Nf with
    | zero =>
      intro i ac hi hac hN
      exact absurd hN (Nat.not_lt_zero _)
    | succ Nf ih_4 =>
      intro i ac hi hac hN ls hl
      refine lv_iload_n hx hb dX5_priceOfWords_4 rfl (lv_at hl 0 rfl) ?_
      refine lv_aload_n hx hb dX5_priceOfWords_5 rfl (lv_at hl 2 rfl) ?_
      refine va_get (v := .int (nI n)) hx hb hts hi_5 hown hK hP 0 rfl rfl 4 (by decide) f_39 (fun _ h => h) rfl dX5_priceOfWords_6 ?_
      refine z_icmp_ge (tgt := 37) hx hb dX5_priceOfWords_9 (by decide) (by omega) (by omega) (fun c_9 => ?_) (fun c_9 => ?_)
      · refine lv_aload_n hx hb dX5_priceOfWords_37 rfl (lv_at hl 2 rfl) ?_
        have hcl := sN_le (f := fun j => wc (t j)) (b := 2) n (fun j _ => wc_le _)
        have hin : i = n := by omega
        rw [hin] at hac
        refine lv_iload_n hx hb dX5_priceOfWords_38 rfl (lv_at hl 1 rfl) ?_
        refine z_roV (As := [.int (nI ac)]) (rest := []) ⟨hx, hb, hml, hown, hts⟩ (c_X5_price l D cI y0 y1 y2 y3 y4 y5 th k n q sg rp lo ea go ak gn gf ac (by first | assumption | omega) (by first | assumption | omega)) (cwV 1 hts gX5_priceOfWords_X5_price rfl rfl rfl hd_X5_price ⟨Nat.le_of_ble_eq_true rfl, Nat.le_of_ble_eq_true rfl⟩) ⟨hK, hE⟩ (hP.sub (ws' := [(y0, .inr (5, [.int (nI th), .int (nI k), .ref y1, .ref y2, .int (nI n), .ref y3, .int (nI q), .int (nI sg), .int rp, .int lo, .int ea, .ref y4, .ref y5, .int (nI go), .int (nI ak), .int (nI gn), .int (nI gf)]))]) [0] rfl) (va_recv hK hP (ci := 5) (q0 := 0) rfl rfl) rfl hl.1 rfl (Nat.le_of_ble_eq_true rfl) dX5_priceOfWords_39 (Nat.zero_le _) (Nat.zero_le _) ?_
        exact ro_iret hQ hx hb hr hlocks (by rw [hac]) dX5_priceOfWords_42
      · have h2 := ht i c_9
        refine lv_iload_n hx hb dX5_priceOfWords_12 rfl (lv_at hl 1 rfl) ?_
        refine lv_aload_n hx hb dX5_priceOfWords_13 rfl (lv_at hl 2 rfl) ?_
        refine va_get (v := .ref y3) hx hb hts hi_5 hown hK hP 0 rfl rfl 5 (by decide) f_16 (fun _ h => h) rfl dX5_priceOfWords_14 ?_
        refine lv_iload_n hx hb dX5_priceOfWords_17 rfl (lv_at hl 0 rfl) ?_
        refine z_ialdN hx hb hK hP 1 0 rfl rfl (by omega) (by decide) dX5_priceOfWords_18 ?_
        refine z_bipush (n := 7) hx hb rfl (by decide) dX5_priceOfWords_19 ?_
        refine z_icmp_le (tgt := 28) hx hb dX5_priceOfWords_21 (by decide) (by omega) (by omega) (fun c_21 => ?_) (fun c_21 => ?_)
        · refine lv_iconst (v := nI 1) hx hb dX5_priceOfWords_28 ci_1 ?_
          refine z_iadd hx hb dX5_priceOfWords_29 ?_
          refine lv_istore_n (lv' := [(1, .int (nI (ac + 1))), (2, .int (nI i)), (0, .ref y0)]) hx hb dX5_priceOfWords_30 rfl hl (by decide) rfl (fun ls hl => ?_)
          refine lv_iinc (v := nI (i + 1)) (lv' := [(2, .int (nI (i + 1))), (1, .int (nI (ac + 1))), (0, .ref y0)]) hx hb dX5_priceOfWords_31 hl (k := 1) rfl (z_inc1 _) (by decide) rfl (fun ls hl => ?_)
          refine lv_goto (tgt := 4) hx hb dX5_priceOfWords_34 (by decide) ?_
          exact ih_4 (i + 1) (ac + 1) (by omega) (by first | (have h9 : wc (t i) = 1 := if_neg (by omega); show ac + 1 = sN _ i + wc (t i); omega) | (have h9 : wc (t i) = 2 := if_pos (by omega); show ac + 2 = sN _ i + wc (t i); omega)) (by omega) ls (lv_sub hl [0, 1, 2] rfl)
        · refine lv_iconst (v := nI 2) hx hb dX5_priceOfWords_24 ci_2 ?_
          refine lv_goto (tgt := 29) hx hb dX5_priceOfWords_25 (by decide) ?_
          refine z_iadd hx hb dX5_priceOfWords_29 ?_
          refine lv_istore_n (lv' := [(1, .int (nI (ac + 2))), (2, .int (nI i)), (0, .ref y0)]) hx hb dX5_priceOfWords_30 rfl hl (by decide) rfl (fun ls hl => ?_)
          refine lv_iinc (v := nI (i + 1)) (lv' := [(2, .int (nI (i + 1))), (1, .int (nI (ac + 2))), (0, .ref y0)]) hx hb dX5_priceOfWords_31 hl (k := 1) rfl (z_inc1 _) (by decide) rfl (fun ls hl => ?_)
          refine lv_goto (tgt := 4) hx hb dX5_priceOfWords_34 (by decide) ?_
          exact ih_4 (i + 1) (ac + 2) (by omega) (by first | (have h9 : wc (t i) = 1 := if_neg (by omega); show ac + 1 = sN _ i + wc (t i); omega) | (have h9 : wc (t i) = 2 := if_pos (by omega); show ac + 2 = sN _ i + wc (t i); omega)) (by omega) ls (lv_sub hl [0, 1, 2] rfl)
  exact lp_4 ((n - 0) + 1) 0 0 (Nat.zero_le _) rfl (Nat.lt_succ_self _) ls hl
set_option maxHeartbeats 4000000 in
set_option maxRecDepth 100000 in
theorem c_X5_isGarbled (l : Launch) (D : va_G) (cI : ClassId) (x : Nat) (q : Nat) (hx : x ≤ 200000) (hq : q ≤ 9) : RO l yX5_isGarbled wsX5_isGarbled rm_X5_isGarbled D cI [] [.int (nI x), .int (nI q)] (.int (z1 (gB q x))) := by
  refine ro_of (C := RX5) (cc := cX5_isGarbled) (maxL := 2) (ret := (some .boolean)) rfl (by decide) rfl (Nat.le_of_ble_eq_true rfl) ?_
  intro pg ev sv mi ag bl mt cd ls Q hQ hx hb hr hlocks hml hts hown hK hE hP hl
  have hP : va_P D vwCl [] sv.heap := hP
  have hl : lv_has ls 2 [(0, .int (nI x)), (1, .int (nI q))] := hl
  refine z_bipush (n := 7) hx hb rfl (by decide) dX5_isGarbled_0 ?_
  refine lv_iload_n hx hb dX5_isGarbled_2 rfl (lv_at hl 0 rfl) ?_
  refine z_imul hx hb dX5_isGarbled_3 ?_
  refine lv_iload_n hx hb dX5_isGarbled_4 rfl (lv_at hl 0 rfl) ?_
  refine z_bipush (n := 10) hx hb rfl (by decide) dX5_isGarbled_5 ?_
  refine z_idiv hx hb dX5_isGarbled_7 (by omega) (by omega) (by omega) ?_
  refine z_iadd hx hb dX5_isGarbled_8 ?_
  refine z_bipush (n := 10) hx hb rfl (by decide) dX5_isGarbled_9 ?_
  refine z_irem hx hb dX5_isGarbled_11 (by omega) (by omega) (by omega) ?_
  refine lv_iload_n hx hb dX5_isGarbled_12 rfl (lv_at hl 1 rfl) ?_
  refine z_icmp_lt (tgt := 20) hx hb dX5_isGarbled_13 (by decide) (by omega) (by omega) (fun c_13 => ?_) (fun c_13 => ?_)
  · refine lv_iconst (v := nI 0) hx hb dX5_isGarbled_20 ci_0 ?_
    exact ro_zret hQ hx hb hr hlocks (z1_0 (by unfold gB; omega)) dX5_isGarbled_21
  · refine lv_iconst (v := nI 1) hx hb dX5_isGarbled_16 ci_1 ?_
    refine lv_goto (tgt := 21) hx hb dX5_isGarbled_17 (by decide) ?_
    exact ro_zret hQ hx hb hr hlocks (z1_1 (by unfold gB; omega)) dX5_isGarbled_21
set_option maxHeartbeats 4000000 in
set_option maxRecDepth 100000 in
theorem c_X5_go (l : Launch) (D : va_G) (cI : ClassId) (y0 : Nat) (y1 : Nat) (y2 : Nat) (y3 : Nat) (y4 : Nat) (y5 : Nat) (th : Nat) (k : Nat) (n : Nat) (q : Nat) (sg : Nat) (rp : Int32) (lo : Int32) (ea : Int32) (go : Nat) (ak : Nat) (gn : Nat) (gf : Nat) (g : Nat) (w : Nat) (hg : g ≤ 24) (hsg : sg ≤ 60000) (hw9 : w ≤ 9) : MU l yX5_go wsX5_go rm_X5_go D cI [(y0, .inr (5, [.int (nI th), .int (nI k), .ref y1, .ref y2, .int (nI n), .ref y3, .int (nI q), .int (nI sg), .int rp, .int lo, .int ea, .ref y4, .ref y5, .int (nI go), .int (nI ak), .int (nI gn), .int (nI gf)]))] [.ref y0, .int (nI g), .int (nI w)] (fun (v9 : Option Value) (u9 : Nat × Nat × Nat × Nat) => v9 = none ∧ (sg + u9.1 = seN w sg g) ∧ (u9.2.1 = akN w sg g) ∧ (u9.2.2.1 = gnN w sg g) ∧ (u9.2.2.2 = gfN w sg g)) (fun (u9 : Nat × Nat × Nat × Nat) => [(y0, .inr (5, [.int (nI th), .int (nI k), .ref y1, .ref y2, .int (nI n), .ref y3, .int (nI q), .int (nI sg), .int rp, .int lo, .int ea, .ref y4, .ref y5, .int (nI u9.1), .int (nI u9.2.1), .int (nI u9.2.2.1), .int (nI u9.2.2.2)]))]) := by
  refine mu_of (C := RX5) (cc := cX5_go) (maxL := 6) (ret := none) rfl (by decide) rfl (Nat.le_of_ble_eq_true rfl) ?_
  intro pg ev sv mi ag bl mt cd ls Q A hA hQ hx hb hr hlocks hml hts hown hK hE hD H locs hP hS hl
  have hD : zDD A [y0] := hD
  have hl : lv_has ls 6 [(0, .ref y0), (1, .int (nI g)), (2, .int (nI w))] := hl
  have f_66 := hts (.fieldLink RX5 66 "TelegraphDeskModel" "goes" "I") (by decide +kernel)
  have f_69 := hts (.fieldLink RX5 69 "TelegraphDeskModel" "asked" "I") (by decide +kernel)
  have f_72 := hts (.fieldLink RX5 72 "TelegraphDeskModel" "gone" "I") (by decide +kernel)
  have f_75 := hts (.fieldLink RX5 75 "TelegraphDeskModel" "garbledFirst" "I") (by decide +kernel)
  have f_78 := hts (.fieldLink RX5 78 "TelegraphDeskModel" "sent" "I") (by decide +kernel)
  have hi_5 : ∀ w ∈ wsX50, w ∈ wsX5_go := by decide +kernel
  refine lv_aload_n hx hb dX5_go_0 rfl (lv_at hl 0 rfl) ?_
  refine lv_iconst (v := nI 0) hx hb dX5_go_1 ci_0 ?_
  refine z_put hx hb hts hi_5 tyX5 tyX5_ok nmX5 hown hK hP hD rfl hS 0 rfl rfl 13 (by decide) f_66 (fun _ h => h) rfl (by decide +kernel) (Nat.le_of_ble_eq_true rfl) dX5_go_2 (fun H locs hP hS => ?_)
  have hP : va_P D vwCl [(y0, .inr (5, [.int (nI th), .int (nI k), .ref y1, .ref y2, .int (nI n), .ref y3, .int (nI q), .int (nI sg), .int rp, .int lo, .int ea, .ref y4, .ref y5, .int (nI 0), .int (nI ak), .int (nI gn), .int (nI gf)]))] H := hP
  refine lv_aload_n hx hb dX5_go_5 rfl (lv_at hl 0 rfl) ?_
  refine lv_iconst (v := nI 0) hx hb dX5_go_6 ci_0 ?_
  refine z_put hx hb hts hi_5 tyX5 tyX5_ok nmX5 hown hK hP hD rfl hS 0 rfl rfl 14 (by decide) f_69 (fun _ h => h) rfl (by decide +kernel) (Nat.le_of_ble_eq_true rfl) dX5_go_7 (fun H locs hP hS => ?_)
  have hP : va_P D vwCl [(y0, .inr (5, [.int (nI th), .int (nI k), .ref y1, .ref y2, .int (nI n), .ref y3, .int (nI q), .int (nI sg), .int rp, .int lo, .int ea, .ref y4, .ref y5, .int (nI 0), .int (nI 0), .int (nI gn), .int (nI gf)]))] H := hP
  refine lv_aload_n hx hb dX5_go_10 rfl (lv_at hl 0 rfl) ?_
  refine lv_iconst (v := nI 0) hx hb dX5_go_11 ci_0 ?_
  refine z_put hx hb hts hi_5 tyX5 tyX5_ok nmX5 hown hK hP hD rfl hS 0 rfl rfl 15 (by decide) f_72 (fun _ h => h) rfl (by decide +kernel) (Nat.le_of_ble_eq_true rfl) dX5_go_12 (fun H locs hP hS => ?_)
  have hP : va_P D vwCl [(y0, .inr (5, [.int (nI th), .int (nI k), .ref y1, .ref y2, .int (nI n), .ref y3, .int (nI q), .int (nI sg), .int rp, .int lo, .int ea, .ref y4, .ref y5, .int (nI 0), .int (nI 0), .int (nI 0), .int (nI gf)]))] H := hP
  refine lv_aload_n hx hb dX5_go_15 rfl (lv_at hl 0 rfl) ?_
  refine lv_iconst (v := nI 0) hx hb dX5_go_16 ci_0 ?_
  refine z_put hx hb hts hi_5 tyX5 tyX5_ok nmX5 hown hK hP hD rfl hS 0 rfl rfl 16 (by decide) f_75 (fun _ h => h) rfl (by decide +kernel) (Nat.le_of_ble_eq_true rfl) dX5_go_17 (fun H locs hP hS => ?_)
  have hP : va_P D vwCl [(y0, .inr (5, [.int (nI th), .int (nI k), .ref y1, .ref y2, .int (nI n), .ref y3, .int (nI q), .int (nI sg), .int rp, .int lo, .int ea, .ref y4, .ref y5, .int (nI 0), .int (nI 0), .int (nI 0), .int (nI 0)]))] H := hP
  refine lv_iconst (v := nI 0) hx hb dX5_go_20 ci_0 ?_
  refine lv_istore_n (lv' := [(3, .int (nI 0)), (0, .ref y0), (1, .int (nI g)), (2, .int (nI w))]) hx hb dX5_go_21 rfl hl (by decide) rfl (fun ls hl => ?_)
  have lp_22 : ∀ (Nf : Nat) (i : Nat) (go1 : Nat) (a1 : Nat) (n1 : Nat) (f1 : Nat) (hi : i ≤ g) (hgo : sg + go1 = seN w sg i) (ha1 : a1 = akN w sg i) (hn1 : n1 = gnN w sg i) (hf1 : f1 = gfN w sg i) (hN : g - i < Nf) (H : Heap) (locs : List Loc) (ls : Array Slot), va_P D vwCl [(y0, .inr (5, [.int (nI th), .int (nI k), .ref y1, .ref y2, .int (nI n), .ref y3, .int (nI q), .int (nI sg), .int rp, .int lo, .int ea, .ref y4, .ref y5, .int (nI go1), .int (nI a1), .int (nI n1), .int (nI f1)]))] H → va_S A sv.heap H locs → lv_has ls 6 [(3, .int (nI i)), (0, .ref y0), (1, .int (nI g)), (2, .int (nI w))] → W pg l ev rm_X5_go sv mi ag bl mt cd H locs 0 0 Q (F0 mi 22 ls []) := by
    intro Nf
    induction Nf with
    | zero =>
      intro i go1 a1 n1 f1 hi hgo ha1 hn1 hf1 hN
      exact absurd hN (Nat.not_lt_zero _)
    | succ Nf ih_22 =>
      intro i go1 a1 n1 f1 hi hgo ha1 hn1 hf1 hN H locs ls hP hS hl
      refine lv_iload_n hx hb dX5_go_22 rfl (lv_at hl 0 rfl) ?_
      refine lv_iload_n hx hb dX5_go_23 rfl (lv_at hl 2 rfl) ?_
      refine z_icmp_ge (tgt := 151) hx hb dX5_go_24 (by decide) (by omega) (by omega) (fun c_24 => ?_) (fun c_24 => ?_)
      · exact mu_vret hA hQ hx hb hr hlocks (go1, a1, n1, f1) hP hS ⟨rfl, (by rw [show g = i by omega]; exact hgo), (by rw [show g = i by omega]; exact ha1), (by rw [show g = i by omega]; exact hn1), (by rw [show g = i by omega]; exact hf1)⟩ dX5_go_151
      · have hsl := seN_le w sg i
        refine lv_aload_n hx hb dX5_go_27 rfl (lv_at hl 1 rfl) ?_
        refine lv_dup hx hb dX5_go_28 rfl ?_
        refine va_get (v := .int (nI go1)) hx hb hts hi_5 hown hK hP 0 rfl rfl 13 (by decide) f_66 (fun _ h => h) rfl dX5_go_29 ?_
        refine lv_iconst (v := nI 1) hx hb dX5_go_32 ci_1 ?_
        refine z_iadd hx hb dX5_go_33 ?_
        refine z_put hx hb hts hi_5 tyX5 tyX5_ok nmX5 hown hK hP hD rfl hS 0 rfl rfl 13 (by decide) f_66 (fun _ h => h) rfl (by decide +kernel) (Nat.le_of_ble_eq_true rfl) dX5_go_34 (fun H locs hP hS => ?_)
        have hP : va_P D vwCl [(y0, .inr (5, [.int (nI th), .int (nI k), .ref y1, .ref y2, .int (nI n), .ref y3, .int (nI q), .int (nI sg), .int rp, .int lo, .int ea, .ref y4, .ref y5, .int (nI (go1 + 1)), .int (nI a1), .int (nI n1), .int (nI f1)]))] H := hP
        refine lv_aload_n hx hb dX5_go_37 rfl (lv_at hl 1 rfl) ?_
        refine va_get (v := .int (nI sg)) hx hb hts hi_5 hown hK hP 0 rfl rfl 7 (by decide) f_78 (fun _ h => h) rfl dX5_go_38 ?_
        refine lv_aload_n hx hb dX5_go_41 rfl (lv_at hl 1 rfl) ?_
        refine va_get (v := .int (nI (go1 + 1))) hx hb hts hi_5 hown hK hP 0 rfl rfl 13 (by decide) f_66 (fun _ h => h) rfl dX5_go_42 ?_
        refine z_iadd hx hb dX5_go_45 ?_
        refine lv_iload_n hx hb dX5_go_46 rfl (lv_at hl 3 rfl) ?_
        refine z_roS (As := [.int (nI (sg + (go1 + 1))), .int (nI w)]) (rest := []) ⟨hx, hb, hml, hown, hts⟩ (c_X5_isGarbled l D cI (sg + (go1 + 1)) w (by omega) hw9) (va_cwS 2 hts gX5_go_X5_isGarbled rfl rfl rfl hd_X5_isGarbled ⟨Nat.le_of_ble_eq_true rfl, Nat.le_of_ble_eq_true rfl⟩) ⟨hK, hE⟩ (va_P_nil _ _ _) rfl hl.1 rfl (Nat.le_of_ble_eq_true rfl) dX5_go_47 (Nat.zero_le _) (Nat.zero_le _) ?_
        refine z_top (y := z1 (gB w (seN w sg i + 1))) (by rw [show sg + (go1 + 1) = seN w sg i + 1 by omega]) ?_
        refine lv_istore (lv' := [(4, .int (z1 (gB w (seN w sg i + 1)))), (3, .int (nI i)), (0, .ref y0), (1, .int (nI g)), (2, .int (nI w))]) hx hb dX5_go_50 hl (by decide) rfl (fun ls hl => ?_)
        refine lv_aload_n hx hb dX5_go_52 rfl (lv_at hl 2 rfl) ?_
        refine lv_dup hx hb dX5_go_53 rfl ?_
        refine va_get (v := .int (nI f1)) hx hb hts hi_5 hown hK hP 0 rfl rfl 16 (by decide) f_75 (fun _ h => h) rfl dX5_go_54 ?_
        refine lv_iload hx hb dX5_go_57 (lv_at hl 0 rfl) ?_
        refine z_if_eqP (tgt := 66) hx hb dX5_go_59 (by decide) (fun c_59 => ?_) (fun c_59 => ?_)
        · refine lv_iconst (v := nI 0) hx hb dX5_go_66 ci_0 ?_
          refine z_iadd hx hb dX5_go_67 ?_
          refine z_put hx hb hts hi_5 tyX5 tyX5_ok nmX5 hown hK hP hD rfl hS 0 rfl rfl 16 (by decide) f_75 (fun _ h => h) rfl (by decide +kernel) (Nat.le_of_ble_eq_true rfl) dX5_go_68 (fun H locs hP hS => ?_)
          have hP : va_P D vwCl [(y0, .inr (5, [.int (nI th), .int (nI k), .ref y1, .ref y2, .int (nI n), .ref y3, .int (nI q), .int (nI sg), .int rp, .int lo, .int ea, .ref y4, .ref y5, .int (nI (go1 + 1)), .int (nI a1), .int (nI n1), .int (nI (f1 + 0))]))] H := hP
          refine lv_iconst (v := nI 0) hx hb dX5_go_71 ci_0 ?_
          refine lv_istore (lv' := [(5, .int (nI 0)), (4, .int (z1 (gB w (seN w sg i + 1)))), (3, .int (nI i)), (0, .ref y0), (1, .int (nI g)), (2, .int (nI w))]) hx hb dX5_go_72 hl (by decide) rfl (fun ls hl => ?_)
          have lp_74 : ∀ (Nf : Nat) (r : Nat) (hr3 : r ≤ 3) (hall : ∀ j, j < r → gB w (seN w sg i + 1 + j)) (hN : 3 - r < Nf) (H : Heap) (locs : List Loc) (ls : Array Slot), va_P D vwCl [(y0, .inr (5, [.int (nI th), .int (nI k), .ref y1, .ref y2, .int (nI n), .ref y3, .int (nI q), .int (nI sg), .int rp, .int lo, .int ea, .ref y4, .ref y5, .int (nI (go1 + 1 + r)), .int (nI (a1 + r)), .int (nI n1), .int (nI (f1 + 0))]))] H → va_S A sv.heap H locs → lv_has ls 6 [(5, .int (nI r)), (4, .int (z1 (gB w (seN w sg i + 1 + r)))), (3, .int (nI i)), (0, .ref y0), (1, .int (nI g)), (2, .int (nI w))] → W pg l ev rm_X5_go sv mi ag bl mt cd H locs 0 0 Q (F0 mi 74 ls []) := by
            intro Nf
            induction Nf with
            | zero =>
              intro r hr3 hall hN
              exact absurd hN (Nat.not_lt_zero _)
            | succ Nf ih_74 =>
              intro r hr3 hall hN H locs ls hP hS hl
              refine lv_iload hx hb dX5_go_74 (lv_at hl 0 rfl) ?_
              refine lv_iconst (v := nI 3) hx hb dX5_go_76 ci_3 ?_
              refine z_icmp_ge (tgt := 126) hx hb dX5_go_77 (by decide) (by omega) (by omega) (fun c_77 => ?_) (fun c_77 => ?_)
              · refine lv_aload_n hx hb dX5_go_126 rfl (lv_at hl 3 rfl) ?_
                refine lv_dup hx hb dX5_go_127 rfl ?_
                refine va_get (v := .int (nI n1)) hx hb hts hi_5 hown hK hP 0 rfl rfl 15 (by decide) f_72 (fun _ h => h) rfl dX5_go_128 ?_
                refine lv_iload hx hb dX5_go_131 (lv_at hl 1 rfl) ?_
                refine z_if_eqP (tgt := 140) hx hb dX5_go_133 (by decide) (fun c_133 => ?_) (fun c_133 => ?_)
                · refine lv_iconst (v := nI 0) hx hb dX5_go_140 ci_0 ?_
                  refine z_iadd hx hb dX5_go_141 ?_
                  refine z_put hx hb hts hi_5 tyX5 tyX5_ok nmX5 hown hK hP hD rfl hS 0 rfl rfl 15 (by decide) f_72 (fun _ h => h) rfl (by decide +kernel) (Nat.le_of_ble_eq_true rfl) dX5_go_142 (fun H locs hP hS => ?_)
                  have hP : va_P D vwCl [(y0, .inr (5, [.int (nI th), .int (nI k), .ref y1, .ref y2, .int (nI n), .ref y3, .int (nI q), .int (nI sg), .int rp, .int lo, .int ea, .ref y4, .ref y5, .int (nI (go1 + 1 + r)), .int (nI (a1 + r)), .int (nI (n1 + 0)), .int (nI (f1 + 0))]))] H := hP
                  refine lv_iinc (v := nI (i + 1)) (lv' := [(3, .int (nI (i + 1))), (5, .int (nI r)), (4, .int (z1 (gB w (seN w sg i + 1 + r)))), (0, .ref y0), (1, .int (nI g)), (2, .int (nI w))]) hx hb dX5_go_145 hl (k := 2) rfl (z_inc1 _) (by decide) rfl (fun ls hl => ?_)
                  refine lv_goto (tgt := 22) hx hb dX5_go_148 (by decide) ?_
                  exact ih_22 (i + 1) (go1 + 1 + r) (a1 + r) (n1 + 0) (f1 + 0) (by omega) (by have h9 : rpt w (seN w sg i) = r := (by first | exact rpt_of hr3 hall (Or.inr c_82) | exact rpt_of hr3 hall (Or.inl (by omega))); show sg + (go1 + 1 + r) = seN w sg i + 1 + rpt w (seN w sg i); omega) (by have h9 : rpt w (seN w sg i) = r := (by first | exact rpt_of hr3 hall (Or.inr c_82) | exact rpt_of hr3 hall (Or.inl (by omega))); show a1 + r = akN w sg i + rpt w (seN w sg i); omega) (by first | (have h9 := lst_0 hr3 c_82; show n1 = gnN w sg i + lst w (seN w sg i); omega) | (have h9 := lst_0 hr3 c_133; show n1 = gnN w sg i + lst w (seN w sg i); omega) | (have h9 := lst_1 (by omega) hall c_133; show n1 + 1 = gnN w sg i + lst w (seN w sg i); omega) | exact absurd c_133 c_82) (by first | (have h9 : gst w (seN w sg i) = 1 := zif_t c_59; show f1 + 1 = gfN w sg i + gst w (seN w sg i); omega) | (have h9 : gst w (seN w sg i) = 0 := zif_f c_59; show f1 = gfN w sg i + gst w (seN w sg i); omega)) (by omega) H locs ls hP hS (lv_sub hl [0, 3, 4, 5] rfl)
                · refine lv_iconst (v := nI 1) hx hb dX5_go_136 ci_1 ?_
                  refine lv_goto (tgt := 141) hx hb dX5_go_137 (by decide) ?_
                  refine z_iadd hx hb dX5_go_141 ?_
                  refine z_put hx hb hts hi_5 tyX5 tyX5_ok nmX5 hown hK hP hD rfl hS 0 rfl rfl 15 (by decide) f_72 (fun _ h => h) rfl (by decide +kernel) (Nat.le_of_ble_eq_true rfl) dX5_go_142 (fun H locs hP hS => ?_)
                  have hP : va_P D vwCl [(y0, .inr (5, [.int (nI th), .int (nI k), .ref y1, .ref y2, .int (nI n), .ref y3, .int (nI q), .int (nI sg), .int rp, .int lo, .int ea, .ref y4, .ref y5, .int (nI (go1 + 1 + r)), .int (nI (a1 + r)), .int (nI (n1 + 1)), .int (nI (f1 + 0))]))] H := hP
                  refine lv_iinc (v := nI (i + 1)) (lv' := [(3, .int (nI (i + 1))), (5, .int (nI r)), (4, .int (z1 (gB w (seN w sg i + 1 + r)))), (0, .ref y0), (1, .int (nI g)), (2, .int (nI w))]) hx hb dX5_go_145 hl (k := 2) rfl (z_inc1 _) (by decide) rfl (fun ls hl => ?_)
                  refine lv_goto (tgt := 22) hx hb dX5_go_148 (by decide) ?_
                  exact ih_22 (i + 1) (go1 + 1 + r) (a1 + r) (n1 + 1) (f1 + 0) (by omega) (by have h9 : rpt w (seN w sg i) = r := (by first | exact rpt_of hr3 hall (Or.inr c_82) | exact rpt_of hr3 hall (Or.inl (by omega))); show sg + (go1 + 1 + r) = seN w sg i + 1 + rpt w (seN w sg i); omega) (by have h9 : rpt w (seN w sg i) = r := (by first | exact rpt_of hr3 hall (Or.inr c_82) | exact rpt_of hr3 hall (Or.inl (by omega))); show a1 + r = akN w sg i + rpt w (seN w sg i); omega) (by first | (have h9 := lst_0 hr3 c_82; show n1 = gnN w sg i + lst w (seN w sg i); omega) | (have h9 := lst_0 hr3 c_133; show n1 = gnN w sg i + lst w (seN w sg i); omega) | (have h9 := lst_1 (by omega) hall c_133; show n1 + 1 = gnN w sg i + lst w (seN w sg i); omega) | exact absurd c_133 c_82) (by first | (have h9 : gst w (seN w sg i) = 1 := zif_t c_59; show f1 + 1 = gfN w sg i + gst w (seN w sg i); omega) | (have h9 : gst w (seN w sg i) = 0 := zif_f c_59; show f1 = gfN w sg i + gst w (seN w sg i); omega)) (by omega) H locs ls hP hS (lv_sub hl [0, 3, 4, 5] rfl)
              · refine lv_iload hx hb dX5_go_80 (lv_at hl 1 rfl) ?_
                refine z_if_eqP (tgt := 126) hx hb dX5_go_82 (by decide) (fun c_82 => ?_) (fun c_82 => ?_)
                · refine lv_aload_n hx hb dX5_go_126 rfl (lv_at hl 3 rfl) ?_
                  refine lv_dup hx hb dX5_go_127 rfl ?_
                  refine va_get (v := .int (nI n1)) hx hb hts hi_5 hown hK hP 0 rfl rfl 15 (by decide) f_72 (fun _ h => h) rfl dX5_go_128 ?_
                  refine lv_iload hx hb dX5_go_131 (lv_at hl 1 rfl) ?_
                  refine z_if_eqP (tgt := 140) hx hb dX5_go_133 (by decide) (fun c_133 => ?_) (fun c_133 => ?_)
                  · refine lv_iconst (v := nI 0) hx hb dX5_go_140 ci_0 ?_
                    refine z_iadd hx hb dX5_go_141 ?_
                    refine z_put hx hb hts hi_5 tyX5 tyX5_ok nmX5 hown hK hP hD rfl hS 0 rfl rfl 15 (by decide) f_72 (fun _ h => h) rfl (by decide +kernel) (Nat.le_of_ble_eq_true rfl) dX5_go_142 (fun H locs hP hS => ?_)
                    have hP : va_P D vwCl [(y0, .inr (5, [.int (nI th), .int (nI k), .ref y1, .ref y2, .int (nI n), .ref y3, .int (nI q), .int (nI sg), .int rp, .int lo, .int ea, .ref y4, .ref y5, .int (nI (go1 + 1 + r)), .int (nI (a1 + r)), .int (nI (n1 + 0)), .int (nI (f1 + 0))]))] H := hP
                    refine lv_iinc (v := nI (i + 1)) (lv' := [(3, .int (nI (i + 1))), (5, .int (nI r)), (4, .int (z1 (gB w (seN w sg i + 1 + r)))), (0, .ref y0), (1, .int (nI g)), (2, .int (nI w))]) hx hb dX5_go_145 hl (k := 2) rfl (z_inc1 _) (by decide) rfl (fun ls hl => ?_)
                    refine lv_goto (tgt := 22) hx hb dX5_go_148 (by decide) ?_
                    exact ih_22 (i + 1) (go1 + 1 + r) (a1 + r) (n1 + 0) (f1 + 0) (by omega) (by have h9 : rpt w (seN w sg i) = r := (by first | exact rpt_of hr3 hall (Or.inr c_82) | exact rpt_of hr3 hall (Or.inl (by omega))); show sg + (go1 + 1 + r) = seN w sg i + 1 + rpt w (seN w sg i); omega) (by have h9 : rpt w (seN w sg i) = r := (by first | exact rpt_of hr3 hall (Or.inr c_82) | exact rpt_of hr3 hall (Or.inl (by omega))); show a1 + r = akN w sg i + rpt w (seN w sg i); omega) (by first | (have h9 := lst_0 hr3 c_82; show n1 = gnN w sg i + lst w (seN w sg i); omega) | (have h9 := lst_0 hr3 c_133; show n1 = gnN w sg i + lst w (seN w sg i); omega) | (have h9 := lst_1 (by omega) hall c_133; show n1 + 1 = gnN w sg i + lst w (seN w sg i); omega) | exact absurd c_133 c_82) (by first | (have h9 : gst w (seN w sg i) = 1 := zif_t c_59; show f1 + 1 = gfN w sg i + gst w (seN w sg i); omega) | (have h9 : gst w (seN w sg i) = 0 := zif_f c_59; show f1 = gfN w sg i + gst w (seN w sg i); omega)) (by omega) H locs ls hP hS (lv_sub hl [0, 3, 4, 5] rfl)
                  · refine lv_iconst (v := nI 1) hx hb dX5_go_136 ci_1 ?_
                    refine lv_goto (tgt := 141) hx hb dX5_go_137 (by decide) ?_
                    refine z_iadd hx hb dX5_go_141 ?_
                    refine z_put hx hb hts hi_5 tyX5 tyX5_ok nmX5 hown hK hP hD rfl hS 0 rfl rfl 15 (by decide) f_72 (fun _ h => h) rfl (by decide +kernel) (Nat.le_of_ble_eq_true rfl) dX5_go_142 (fun H locs hP hS => ?_)
                    have hP : va_P D vwCl [(y0, .inr (5, [.int (nI th), .int (nI k), .ref y1, .ref y2, .int (nI n), .ref y3, .int (nI q), .int (nI sg), .int rp, .int lo, .int ea, .ref y4, .ref y5, .int (nI (go1 + 1 + r)), .int (nI (a1 + r)), .int (nI (n1 + 1)), .int (nI (f1 + 0))]))] H := hP
                    refine lv_iinc (v := nI (i + 1)) (lv' := [(3, .int (nI (i + 1))), (5, .int (nI r)), (4, .int (z1 (gB w (seN w sg i + 1 + r)))), (0, .ref y0), (1, .int (nI g)), (2, .int (nI w))]) hx hb dX5_go_145 hl (k := 2) rfl (z_inc1 _) (by decide) rfl (fun ls hl => ?_)
                    refine lv_goto (tgt := 22) hx hb dX5_go_148 (by decide) ?_
                    exact ih_22 (i + 1) (go1 + 1 + r) (a1 + r) (n1 + 1) (f1 + 0) (by omega) (by have h9 : rpt w (seN w sg i) = r := (by first | exact rpt_of hr3 hall (Or.inr c_82) | exact rpt_of hr3 hall (Or.inl (by omega))); show sg + (go1 + 1 + r) = seN w sg i + 1 + rpt w (seN w sg i); omega) (by have h9 : rpt w (seN w sg i) = r := (by first | exact rpt_of hr3 hall (Or.inr c_82) | exact rpt_of hr3 hall (Or.inl (by omega))); show a1 + r = akN w sg i + rpt w (seN w sg i); omega) (by first | (have h9 := lst_0 hr3 c_82; show n1 = gnN w sg i + lst w (seN w sg i); omega) | (have h9 := lst_0 hr3 c_133; show n1 = gnN w sg i + lst w (seN w sg i); omega) | (have h9 := lst_1 (by omega) hall c_133; show n1 + 1 = gnN w sg i + lst w (seN w sg i); omega) | exact absurd c_133 c_82) (by first | (have h9 : gst w (seN w sg i) = 1 := zif_t c_59; show f1 + 1 = gfN w sg i + gst w (seN w sg i); omega) | (have h9 : gst w (seN w sg i) = 0 := zif_f c_59; show f1 = gfN w sg i + gst w (seN w sg i); omega)) (by omega) H locs ls hP hS (lv_sub hl [0, 3, 4, 5] rfl)
                · refine lv_aload_n hx hb dX5_go_85 rfl (lv_at hl 3 rfl) ?_
                  refine lv_dup hx hb dX5_go_86 rfl ?_
                  refine va_get (v := .int (nI (a1 + r))) hx hb hts hi_5 hown hK hP 0 rfl rfl 14 (by decide) f_69 (fun _ h => h) rfl dX5_go_87 ?_
                  refine lv_iconst (v := nI 1) hx hb dX5_go_90 ci_1 ?_
                  refine z_iadd hx hb dX5_go_91 ?_
                  refine z_put hx hb hts hi_5 tyX5 tyX5_ok nmX5 hown hK hP hD rfl hS 0 rfl rfl 14 (by decide) f_69 (fun _ h => h) rfl (by decide +kernel) (Nat.le_of_ble_eq_true rfl) dX5_go_92 (fun H locs hP hS => ?_)
                  have hP : va_P D vwCl [(y0, .inr (5, [.int (nI th), .int (nI k), .ref y1, .ref y2, .int (nI n), .ref y3, .int (nI q), .int (nI sg), .int rp, .int lo, .int ea, .ref y4, .ref y5, .int (nI (go1 + 1 + r)), .int (nI ((a1 + r) + 1)), .int (nI n1), .int (nI (f1 + 0))]))] H := hP
                  refine lv_aload_n hx hb dX5_go_95 rfl (lv_at hl 3 rfl) ?_
                  refine lv_dup hx hb dX5_go_96 rfl ?_
                  refine va_get (v := .int (nI (go1 + 1 + r))) hx hb hts hi_5 hown hK hP 0 rfl rfl 13 (by decide) f_66 (fun _ h => h) rfl dX5_go_97 ?_
                  refine lv_iconst (v := nI 1) hx hb dX5_go_100 ci_1 ?_
                  refine z_iadd hx hb dX5_go_101 ?_
                  refine z_put hx hb hts hi_5 tyX5 tyX5_ok nmX5 hown hK hP hD rfl hS 0 rfl rfl 13 (by decide) f_66 (fun _ h => h) rfl (by decide +kernel) (Nat.le_of_ble_eq_true rfl) dX5_go_102 (fun H locs hP hS => ?_)
                  have hP : va_P D vwCl [(y0, .inr (5, [.int (nI th), .int (nI k), .ref y1, .ref y2, .int (nI n), .ref y3, .int (nI q), .int (nI sg), .int rp, .int lo, .int ea, .ref y4, .ref y5, .int (nI ((go1 + 1 + r) + 1)), .int (nI ((a1 + r) + 1)), .int (nI n1), .int (nI (f1 + 0))]))] H := hP
                  refine lv_aload_n hx hb dX5_go_105 rfl (lv_at hl 3 rfl) ?_
                  refine va_get (v := .int (nI sg)) hx hb hts hi_5 hown hK hP 0 rfl rfl 7 (by decide) f_78 (fun _ h => h) rfl dX5_go_106 ?_
                  refine lv_aload_n hx hb dX5_go_109 rfl (lv_at hl 3 rfl) ?_
                  refine va_get (v := .int (nI ((go1 + 1 + r) + 1))) hx hb hts hi_5 hown hK hP 0 rfl rfl 13 (by decide) f_66 (fun _ h => h) rfl dX5_go_110 ?_
                  refine z_iadd hx hb dX5_go_113 ?_
                  refine lv_iload_n hx hb dX5_go_114 rfl (lv_at hl 5 rfl) ?_
                  refine z_roS (As := [.int (nI (sg + ((go1 + 1 + r) + 1))), .int (nI w)]) (rest := []) ⟨hx, hb, hml, hown, hts⟩ (c_X5_isGarbled l D cI (sg + ((go1 + 1 + r) + 1)) w (by omega) hw9) (va_cwS 2 hts gX5_go_X5_isGarbled rfl rfl rfl hd_X5_isGarbled ⟨Nat.le_of_ble_eq_true rfl, Nat.le_of_ble_eq_true rfl⟩) ⟨hK, hE⟩ (va_P_nil _ _ _) rfl hl.1 rfl (Nat.le_of_ble_eq_true rfl) dX5_go_115 (Nat.zero_le _) (Nat.zero_le _) ?_
                  refine z_top (y := z1 (gB w (seN w sg i + 1 + (r + 1)))) (by rw [show sg + (go1 + 1 + r + 1) = seN w sg i + 1 + (r + 1) by omega]) ?_
                  refine lv_istore (lv' := [(4, .int (z1 (gB w (seN w sg i + 1 + (r + 1))))), (5, .int (nI r)), (3, .int (nI i)), (0, .ref y0), (1, .int (nI g)), (2, .int (nI w))]) hx hb dX5_go_118 hl (by decide) rfl (fun ls hl => ?_)
                  refine lv_iinc (v := nI (r + 1)) (lv' := [(5, .int (nI (r + 1))), (4, .int (z1 (gB w (seN w sg i + 1 + (r + 1))))), (3, .int (nI i)), (0, .ref y0), (1, .int (nI g)), (2, .int (nI w))]) hx hb dX5_go_120 hl (k := 1) rfl (z_inc1 _) (by decide) rfl (fun ls hl => ?_)
                  refine lv_goto (tgt := 74) hx hb dX5_go_123 (by decide) ?_
                  exact ih_74 (r + 1) (by omega) (lt_s hall c_82) (by omega) H locs ls hP hS (lv_sub hl [0, 1, 2, 3, 4, 5] rfl)
          exact lp_74 ((3 - 0) + 1) 0 (Nat.zero_le _) (fun _ h => absurd h (Nat.not_lt_zero _)) (Nat.lt_succ_self _) H locs ls hP hS hl
        · refine lv_iconst (v := nI 1) hx hb dX5_go_62 ci_1 ?_
          refine lv_goto (tgt := 67) hx hb dX5_go_63 (by decide) ?_
          refine z_iadd hx hb dX5_go_67 ?_
          refine z_put hx hb hts hi_5 tyX5 tyX5_ok nmX5 hown hK hP hD rfl hS 0 rfl rfl 16 (by decide) f_75 (fun _ h => h) rfl (by decide +kernel) (Nat.le_of_ble_eq_true rfl) dX5_go_68 (fun H locs hP hS => ?_)
          have hP : va_P D vwCl [(y0, .inr (5, [.int (nI th), .int (nI k), .ref y1, .ref y2, .int (nI n), .ref y3, .int (nI q), .int (nI sg), .int rp, .int lo, .int ea, .ref y4, .ref y5, .int (nI (go1 + 1)), .int (nI a1), .int (nI n1), .int (nI (f1 + 1))]))] H := hP
          refine lv_iconst (v := nI 0) hx hb dX5_go_71 ci_0 ?_
          refine lv_istore (lv' := [(5, .int (nI 0)), (4, .int (z1 (gB w (seN w sg i + 1)))), (3, .int (nI i)), (0, .ref y0), (1, .int (nI g)), (2, .int (nI w))]) hx hb dX5_go_72 hl (by decide) rfl (fun ls hl => ?_)
          have lp_74 : ∀ (Nf : Nat) (r : Nat) (hr3 : r ≤ 3) (hall : ∀ j, j < r → gB w (seN w sg i + 1 + j)) (hN : 3 - r < Nf) (H : Heap) (locs : List Loc) (ls : Array Slot), va_P D vwCl [(y0, .inr (5, [.int (nI th), .int (nI k), .ref y1, .ref y2, .int (nI n), .ref y3, .int (nI q), .int (nI sg), .int rp, .int lo, .int ea, .ref y4, .ref y5, .int (nI (go1 + 1 + r)), .int (nI (a1 + r)), .int (nI n1), .int (nI (f1 + 1))]))] H → va_S A sv.heap H locs → lv_has ls 6 [(5, .int (nI r)), (4, .int (z1 (gB w (seN w sg i + 1 + r)))), (3, .int (nI i)), (0, .ref y0), (1, .int (nI g)), (2, .int (nI w))] → W pg l ev rm_X5_go sv mi ag bl mt cd H locs 0 0 Q (F0 mi 74 ls []) := by
            intro Nf
            induction Nf with
            | zero =>
              intro r hr3 hall hN
              exact absurd hN (Nat.not_lt_zero _)
            | succ Nf ih_74 =>
              intro r hr3 hall hN H locs ls hP hS hl
              refine lv_iload hx hb dX5_go_74 (lv_at hl 0 rfl) ?_
              refine lv_iconst (v := nI 3) hx hb dX5_go_76 ci_3 ?_
              refine z_icmp_ge (tgt := 126) hx hb dX5_go_77 (by decide) (by omega) (by omega) (fun c_77 => ?_) (fun c_77 => ?_)
              · refine lv_aload_n hx hb dX5_go_126 rfl (lv_at hl 3 rfl) ?_
                refine lv_dup hx hb dX5_go_127 rfl ?_
                refine va_get (v := .int (nI n1)) hx hb hts hi_5 hown hK hP 0 rfl rfl 15 (by decide) f_72 (fun _ h => h) rfl dX5_go_128 ?_
                refine lv_iload hx hb dX5_go_131 (lv_at hl 1 rfl) ?_
                refine z_if_eqP (tgt := 140) hx hb dX5_go_133 (by decide) (fun c_133 => ?_) (fun c_133 => ?_)
                · refine lv_iconst (v := nI 0) hx hb dX5_go_140 ci_0 ?_
                  refine z_iadd hx hb dX5_go_141 ?_
                  refine z_put hx hb hts hi_5 tyX5 tyX5_ok nmX5 hown hK hP hD rfl hS 0 rfl rfl 15 (by decide) f_72 (fun _ h => h) rfl (by decide +kernel) (Nat.le_of_ble_eq_true rfl) dX5_go_142 (fun H locs hP hS => ?_)
                  have hP : va_P D vwCl [(y0, .inr (5, [.int (nI th), .int (nI k), .ref y1, .ref y2, .int (nI n), .ref y3, .int (nI q), .int (nI sg), .int rp, .int lo, .int ea, .ref y4, .ref y5, .int (nI (go1 + 1 + r)), .int (nI (a1 + r)), .int (nI (n1 + 0)), .int (nI (f1 + 1))]))] H := hP
                  refine lv_iinc (v := nI (i + 1)) (lv' := [(3, .int (nI (i + 1))), (5, .int (nI r)), (4, .int (z1 (gB w (seN w sg i + 1 + r)))), (0, .ref y0), (1, .int (nI g)), (2, .int (nI w))]) hx hb dX5_go_145 hl (k := 2) rfl (z_inc1 _) (by decide) rfl (fun ls hl => ?_)
                  refine lv_goto (tgt := 22) hx hb dX5_go_148 (by decide) ?_
                  exact ih_22 (i + 1) (go1 + 1 + r) (a1 + r) (n1 + 0) (f1 + 1) (by omega) (by have h9 : rpt w (seN w sg i) = r := (by first | exact rpt_of hr3 hall (Or.inr c_82) | exact rpt_of hr3 hall (Or.inl (by omega))); show sg + (go1 + 1 + r) = seN w sg i + 1 + rpt w (seN w sg i); omega) (by have h9 : rpt w (seN w sg i) = r := (by first | exact rpt_of hr3 hall (Or.inr c_82) | exact rpt_of hr3 hall (Or.inl (by omega))); show a1 + r = akN w sg i + rpt w (seN w sg i); omega) (by first | (have h9 := lst_0 hr3 c_82; show n1 = gnN w sg i + lst w (seN w sg i); omega) | (have h9 := lst_0 hr3 c_133; show n1 = gnN w sg i + lst w (seN w sg i); omega) | (have h9 := lst_1 (by omega) hall c_133; show n1 + 1 = gnN w sg i + lst w (seN w sg i); omega) | exact absurd c_133 c_82) (by first | (have h9 : gst w (seN w sg i) = 1 := zif_t c_59; show f1 + 1 = gfN w sg i + gst w (seN w sg i); omega) | (have h9 : gst w (seN w sg i) = 0 := zif_f c_59; show f1 = gfN w sg i + gst w (seN w sg i); omega)) (by omega) H locs ls hP hS (lv_sub hl [0, 3, 4, 5] rfl)
                · refine lv_iconst (v := nI 1) hx hb dX5_go_136 ci_1 ?_
                  refine lv_goto (tgt := 141) hx hb dX5_go_137 (by decide) ?_
                  refine z_iadd hx hb dX5_go_141 ?_
                  refine z_put hx hb hts hi_5 tyX5 tyX5_ok nmX5 hown hK hP hD rfl hS 0 rfl rfl 15 (by decide) f_72 (fun _ h => h) rfl (by decide +kernel) (Nat.le_of_ble_eq_true rfl) dX5_go_142 (fun H locs hP hS => ?_)
                  have hP : va_P D vwCl [(y0, .inr (5, [.int (nI th), .int (nI k), .ref y1, .ref y2, .int (nI n), .ref y3, .int (nI q), .int (nI sg), .int rp, .int lo, .int ea, .ref y4, .ref y5, .int (nI (go1 + 1 + r)), .int (nI (a1 + r)), .int (nI (n1 + 1)), .int (nI (f1 + 1))]))] H := hP
                  refine lv_iinc (v := nI (i + 1)) (lv' := [(3, .int (nI (i + 1))), (5, .int (nI r)), (4, .int (z1 (gB w (seN w sg i + 1 + r)))), (0, .ref y0), (1, .int (nI g)), (2, .int (nI w))]) hx hb dX5_go_145 hl (k := 2) rfl (z_inc1 _) (by decide) rfl (fun ls hl => ?_)
                  refine lv_goto (tgt := 22) hx hb dX5_go_148 (by decide) ?_
                  exact ih_22 (i + 1) (go1 + 1 + r) (a1 + r) (n1 + 1) (f1 + 1) (by omega) (by have h9 : rpt w (seN w sg i) = r := (by first | exact rpt_of hr3 hall (Or.inr c_82) | exact rpt_of hr3 hall (Or.inl (by omega))); show sg + (go1 + 1 + r) = seN w sg i + 1 + rpt w (seN w sg i); omega) (by have h9 : rpt w (seN w sg i) = r := (by first | exact rpt_of hr3 hall (Or.inr c_82) | exact rpt_of hr3 hall (Or.inl (by omega))); show a1 + r = akN w sg i + rpt w (seN w sg i); omega) (by first | (have h9 := lst_0 hr3 c_82; show n1 = gnN w sg i + lst w (seN w sg i); omega) | (have h9 := lst_0 hr3 c_133; show n1 = gnN w sg i + lst w (seN w sg i); omega) | (have h9 := lst_1 (by omega) hall c_133; show n1 + 1 = gnN w sg i + lst w (seN w sg i); omega) | exact absurd c_133 c_82) (by first | (have h9 : gst w (seN w sg i) = 1 := zif_t c_59; show f1 + 1 = gfN w sg i + gst w (seN w sg i); omega) | (have h9 : gst w (seN w sg i) = 0 := zif_f c_59; show f1 = gfN w sg i + gst w (seN w sg i); omega)) (by omega) H locs ls hP hS (lv_sub hl [0, 3, 4, 5] rfl)
              · refine lv_iload hx hb dX5_go_80 (lv_at hl 1 rfl) ?_
                refine z_if_eqP (tgt := 126) hx hb dX5_go_82 (by decide) (fun c_82 => ?_) (fun c_82 => ?_)
                · refine lv_aload_n hx hb dX5_go_126 rfl (lv_at hl 3 rfl) ?_
                  refine lv_dup hx hb dX5_go_127 rfl ?_
                  refine va_get (v := .int (nI n1)) hx hb hts hi_5 hown hK hP 0 rfl rfl 15 (by decide) f_72 (fun _ h => h) rfl dX5_go_128 ?_
                  refine lv_iload hx hb dX5_go_131 (lv_at hl 1 rfl) ?_
                  refine z_if_eqP (tgt := 140) hx hb dX5_go_133 (by decide) (fun c_133 => ?_) (fun c_133 => ?_)
                  · refine lv_iconst (v := nI 0) hx hb dX5_go_140 ci_0 ?_
                    refine z_iadd hx hb dX5_go_141 ?_
                    refine z_put hx hb hts hi_5 tyX5 tyX5_ok nmX5 hown hK hP hD rfl hS 0 rfl rfl 15 (by decide) f_72 (fun _ h => h) rfl (by decide +kernel) (Nat.le_of_ble_eq_true rfl) dX5_go_142 (fun H locs hP hS => ?_)
                    have hP : va_P D vwCl [(y0, .inr (5, [.int (nI th), .int (nI k), .ref y1, .ref y2, .int (nI n), .ref y3, .int (nI q), .int (nI sg), .int rp, .int lo, .int ea, .ref y4, .ref y5, .int (nI (go1 + 1 + r)), .int (nI (a1 + r)), .int (nI (n1 + 0)), .int (nI (f1 + 1))]))] H := hP
                    refine lv_iinc (v := nI (i + 1)) (lv' := [(3, .int (nI (i + 1))), (5, .int (nI r)), (4, .int (z1 (gB w (seN w sg i + 1 + r)))), (0, .ref y0), (1, .int (nI g)), (2, .int (nI w))]) hx hb dX5_go_145 hl (k := 2) rfl (z_inc1 _) (by decide) rfl (fun ls hl => ?_)
                    refine lv_goto (tgt := 22) hx hb dX5_go_148 (by decide) ?_
                    exact ih_22 (i + 1) (go1 + 1 + r) (a1 + r) (n1 + 0) (f1 + 1) (by omega) (by have h9 : rpt w (seN w sg i) = r := (by first | exact rpt_of hr3 hall (Or.inr c_82) | exact rpt_of hr3 hall (Or.inl (by omega))); show sg + (go1 + 1 + r) = seN w sg i + 1 + rpt w (seN w sg i); omega) (by have h9 : rpt w (seN w sg i) = r := (by first | exact rpt_of hr3 hall (Or.inr c_82) | exact rpt_of hr3 hall (Or.inl (by omega))); show a1 + r = akN w sg i + rpt w (seN w sg i); omega) (by first | (have h9 := lst_0 hr3 c_82; show n1 = gnN w sg i + lst w (seN w sg i); omega) | (have h9 := lst_0 hr3 c_133; show n1 = gnN w sg i + lst w (seN w sg i); omega) | (have h9 := lst_1 (by omega) hall c_133; show n1 + 1 = gnN w sg i + lst w (seN w sg i); omega) | exact absurd c_133 c_82) (by first | (have h9 : gst w (seN w sg i) = 1 := zif_t c_59; show f1 + 1 = gfN w sg i + gst w (seN w sg i); omega) | (have h9 : gst w (seN w sg i) = 0 := zif_f c_59; show f1 = gfN w sg i + gst w (seN w sg i); omega)) (by omega) H locs ls hP hS (lv_sub hl [0, 3, 4, 5] rfl)
                  · refine lv_iconst (v := nI 1) hx hb dX5_go_136 ci_1 ?_
                    refine lv_goto (tgt := 141) hx hb dX5_go_137 (by decide) ?_
                    refine z_iadd hx hb dX5_go_141 ?_
                    refine z_put hx hb hts hi_5 tyX5 tyX5_ok nmX5 hown hK hP hD rfl hS 0 rfl rfl 15 (by decide) f_72 (fun _ h => h) rfl (by decide +kernel) (Nat.le_of_ble_eq_true rfl) dX5_go_142 (fun H locs hP hS => ?_)
                    have hP : va_P D vwCl [(y0, .inr (5, [.int (nI th), .int (nI k), .ref y1, .ref y2, .int (nI n), .ref y3, .int (nI q), .int (nI sg), .int rp, .int lo, .int ea, .ref y4, .ref y5, .int (nI (go1 + 1 + r)), .int (nI (a1 + r)), .int (nI (n1 + 1)), .int (nI (f1 + 1))]))] H := hP
                    refine lv_iinc (v := nI (i + 1)) (lv' := [(3, .int (nI (i + 1))), (5, .int (nI r)), (4, .int (z1 (gB w (seN w sg i + 1 + r)))), (0, .ref y0), (1, .int (nI g)), (2, .int (nI w))]) hx hb dX5_go_145 hl (k := 2) rfl (z_inc1 _) (by decide) rfl (fun ls hl => ?_)
                    refine lv_goto (tgt := 22) hx hb dX5_go_148 (by decide) ?_
                    exact ih_22 (i + 1) (go1 + 1 + r) (a1 + r) (n1 + 1) (f1 + 1) (by omega) (by have h9 : rpt w (seN w sg i) = r := (by first | exact rpt_of hr3 hall (Or.inr c_82) | exact rpt_of hr3 hall (Or.inl (by omega))); show sg + (go1 + 1 + r) = seN w sg i + 1 + rpt w (seN w sg i); omega) (by have h9 : rpt w (seN w sg i) = r := (by first | exact rpt_of hr3 hall (Or.inr c_82) | exact rpt_of hr3 hall (Or.inl (by omega))); show a1 + r = akN w sg i + rpt w (seN w sg i); omega) (by first | (have h9 := lst_0 hr3 c_82; show n1 = gnN w sg i + lst w (seN w sg i); omega) | (have h9 := lst_0 hr3 c_133; show n1 = gnN w sg i + lst w (seN w sg i); omega) | (have h9 := lst_1 (by omega) hall c_133; show n1 + 1 = gnN w sg i + lst w (seN w sg i); omega) | exact absurd c_133 c_82) (by first | (have h9 : gst w (seN w sg i) = 1 := zif_t c_59; show f1 + 1 = gfN w sg i + gst w (seN w sg i); omega) | (have h9 : gst w (seN w sg i) = 0 := zif_f c_59; show f1 = gfN w sg i + gst w (seN w sg i); omega)) (by omega) H locs ls hP hS (lv_sub hl [0, 3, 4, 5] rfl)
                · refine lv_aload_n hx hb dX5_go_85 rfl (lv_at hl 3 rfl) ?_
                  refine lv_dup hx hb dX5_go_86 rfl ?_
                  refine va_get (v := .int (nI (a1 + r))) hx hb hts hi_5 hown hK hP 0 rfl rfl 14 (by decide) f_69 (fun _ h => h) rfl dX5_go_87 ?_
                  refine lv_iconst (v := nI 1) hx hb dX5_go_90 ci_1 ?_
                  refine z_iadd hx hb dX5_go_91 ?_
                  refine z_put hx hb hts hi_5 tyX5 tyX5_ok nmX5 hown hK hP hD rfl hS 0 rfl rfl 14 (by decide) f_69 (fun _ h => h) rfl (by decide +kernel) (Nat.le_of_ble_eq_true rfl) dX5_go_92 (fun H locs hP hS => ?_)
                  have hP : va_P D vwCl [(y0, .inr (5, [.int (nI th), .int (nI k), .ref y1, .ref y2, .int (nI n), .ref y3, .int (nI q), .int (nI sg), .int rp, .int lo, .int ea, .ref y4, .ref y5, .int (nI (go1 + 1 + r)), .int (nI ((a1 + r) + 1)), .int (nI n1), .int (nI (f1 + 1))]))] H := hP
                  refine lv_aload_n hx hb dX5_go_95 rfl (lv_at hl 3 rfl) ?_
                  refine lv_dup hx hb dX5_go_96 rfl ?_
                  refine va_get (v := .int (nI (go1 + 1 + r))) hx hb hts hi_5 hown hK hP 0 rfl rfl 13 (by decide) f_66 (fun _ h => h) rfl dX5_go_97 ?_
                  refine lv_iconst (v := nI 1) hx hb dX5_go_100 ci_1 ?_
                  refine z_iadd hx hb dX5_go_101 ?_
                  refine z_put hx hb hts hi_5 tyX5 tyX5_ok nmX5 hown hK hP hD rfl hS 0 rfl rfl 13 (by decide) f_66 (fun _ h => h) rfl (by decide +kernel) (Nat.le_of_ble_eq_true rfl) dX5_go_102 (fun H locs hP hS => ?_)
                  have hP : va_P D vwCl [(y0, .inr (5, [.int (nI th), .int (nI k), .ref y1, .ref y2, .int (nI n), .ref y3, .int (nI q), .int (nI sg), .int rp, .int lo, .int ea, .ref y4, .ref y5, .int (nI ((go1 + 1 + r) + 1)), .int (nI ((a1 + r) + 1)), .int (nI n1), .int (nI (f1 + 1))]))] H := hP
                  refine lv_aload_n hx hb dX5_go_105 rfl (lv_at hl 3 rfl) ?_
                  refine va_get (v := .int (nI sg)) hx hb hts hi_5 hown hK hP 0 rfl rfl 7 (by decide) f_78 (fun _ h => h) rfl dX5_go_106 ?_
                  refine lv_aload_n hx hb dX5_go_109 rfl (lv_at hl 3 rfl) ?_
                  refine va_get (v := .int (nI ((go1 + 1 + r) + 1))) hx hb hts hi_5 hown hK hP 0 rfl rfl 13 (by decide) f_66 (fun _ h => h) rfl dX5_go_110 ?_
                  refine z_iadd hx hb dX5_go_113 ?_
                  refine lv_iload_n hx hb dX5_go_114 rfl (lv_at hl 5 rfl) ?_
                  refine z_roS (As := [.int (nI (sg + ((go1 + 1 + r) + 1))), .int (nI w)]) (rest := []) ⟨hx, hb, hml, hown, hts⟩ (c_X5_isGarbled l D cI (sg + ((go1 + 1 + r) + 1)) w (by omega) hw9) (va_cwS 2 hts gX5_go_X5_isGarbled rfl rfl rfl hd_X5_isGarbled ⟨Nat.le_of_ble_eq_true rfl, Nat.le_of_ble_eq_true rfl⟩) ⟨hK, hE⟩ (va_P_nil _ _ _) rfl hl.1 rfl (Nat.le_of_ble_eq_true rfl) dX5_go_115 (Nat.zero_le _) (Nat.zero_le _) ?_
                  refine z_top (y := z1 (gB w (seN w sg i + 1 + (r + 1)))) (by rw [show sg + (go1 + 1 + r + 1) = seN w sg i + 1 + (r + 1) by omega]) ?_
                  refine lv_istore (lv' := [(4, .int (z1 (gB w (seN w sg i + 1 + (r + 1))))), (5, .int (nI r)), (3, .int (nI i)), (0, .ref y0), (1, .int (nI g)), (2, .int (nI w))]) hx hb dX5_go_118 hl (by decide) rfl (fun ls hl => ?_)
                  refine lv_iinc (v := nI (r + 1)) (lv' := [(5, .int (nI (r + 1))), (4, .int (z1 (gB w (seN w sg i + 1 + (r + 1))))), (3, .int (nI i)), (0, .ref y0), (1, .int (nI g)), (2, .int (nI w))]) hx hb dX5_go_120 hl (k := 1) rfl (z_inc1 _) (by decide) rfl (fun ls hl => ?_)
                  refine lv_goto (tgt := 74) hx hb dX5_go_123 (by decide) ?_
                  exact ih_74 (r + 1) (by omega) (lt_s hall c_82) (by omega) H locs ls hP hS (lv_sub hl [0, 1, 2, 3, 4, 5] rfl)
          exact lp_74 ((3 - 0) + 1) 0 (Nat.zero_le _) (fun _ h => absurd h (Nat.not_lt_zero _)) (Nat.lt_succ_self _) H locs ls hP hS hl
  exact lp_22 ((g - 0) + 1) 0 0 0 0 0 (Nat.zero_le _) rfl rfl rfl rfl (Nat.lt_succ_self _) H locs ls hP hS hl
set_option maxHeartbeats 4000000 in
set_option maxRecDepth 100000 in
theorem c_X5_codes (l : Launch) (D : va_G) (cI : ClassId) (y0 : Nat) (y1 : Nat) (y2 : Nat) (y3 : Nat) (y4 : Nat) (y5 : Nat) (th : Nat) (k : Nat) (n : Nat) (q : Nat) (sg : Nat) (rp : Int32) (lo : Int32) (ea : Int32) (go : Nat) (ak : Nat) (gn : Nat) (gf : Nat) : MU l yX5_codes wsX5_codes rm_X5_codes D cI [(y0, .inr (5, [.int (nI th), .int (nI k), .ref y1, .ref y2, .int (nI n), .ref y3, .int (nI q), .int (nI sg), .int rp, .int lo, .int ea, .ref y4, .ref y5, .int (nI go), .int (nI ak), .int (nI gn), .int (nI gf)]))] [.ref y0] (fun (v9 : Option Value) (u9 : Unit) => v9 = some (.int (nI k))) (fun (u9 : Unit) => [(y0, .inr (5, [.int (nI 0), .int (nI k), .ref y1, .ref y2, .int (nI n), .ref y3, .int (nI q), .int (nI sg), .int rp, .int lo, .int ea, .ref y4, .ref y5, .int (nI go), .int (nI ak), .int (nI gn), .int (nI gf)]))]) := by
  refine mu_of (C := RX5) (cc := cX5_codes) (maxL := 1) (ret := (some .int)) rfl (by decide) rfl (Nat.le_of_ble_eq_true rfl) ?_
  intro pg ev sv mi ag bl mt cd ls Q A hA hQ hx hb hr hlocks hml hts hown hK hE hD H locs hP hS hl
  have hD : zDD A [y0] := hD
  have hl : lv_has ls 1 [(0, .ref y0)] := hl
  have f_36 := hts (.fieldLink RX5 36 "TelegraphDeskModel" "codes" "I") (by decide +kernel)
  have hi_5 : ∀ w ∈ wsX50, w ∈ wsX5_codes := by decide +kernel
  refine lv_aload_n hx hb dX5_codes_0 rfl (lv_at hl 0 rfl) ?_
  refine lv_aload_n hx hb dX5_codes_1 rfl (lv_at hl 0 rfl) ?_
  refine va_get (v := .int (nI k)) hx hb hts hi_5 hown hK hP 0 rfl rfl 1 (by decide) f_36 (fun _ h => h) rfl dX5_codes_2 ?_
  refine z_muV (As := [.int (nI k)]) (rest := []) ⟨hx, hb, hml, hown, hts⟩ (c_X5_told l D cI y0 y1 y2 y3 y4 y5 th k n q sg rp lo ea go ak gn gf (nI k)) (cwV 1 hts gX5_codes_X5_told rfl rfl rfl hd_X5_told ⟨Nat.le_of_ble_eq_true rfl, Nat.le_of_ble_eq_true rfl⟩) ⟨hK, hE⟩ hP hD rfl hS [0] (by decide) rfl (fun _ => rfl) (va_recv hK hP (ci := 5) (q0 := 0) rfl rfl) rfl hl.1 rfl (Nat.le_of_ble_eq_true rfl) dX5_codes_5 (Nat.zero_le _) (Nat.zero_le _) (fun v9 u9 H locs hp hP hS => ?_)
  obtain rfl := hp
  have hP : va_P D vwCl [(y0, .inr (5, [.int (nI 0), .int (nI k), .ref y1, .ref y2, .int (nI n), .ref y3, .int (nI q), .int (nI sg), .int rp, .int lo, .int ea, .ref y4, .ref y5, .int (nI go), .int (nI ak), .int (nI gn), .int (nI gf)]))] H := hP
  refine W.eq (g2 := F0 mi 8 ls [.int (nI k)]) rfl ?_
  exact mu_iret hA hQ hx hb hr hlocks () hP hS rfl dX5_codes_8
set_option maxHeartbeats 4000000 in
set_option maxRecDepth 100000 in
theorem c_X5_words (l : Launch) (D : va_G) (cI : ClassId) (y0 : Nat) (y1 : Nat) (y2 : Nat) (y3 : Nat) (y4 : Nat) (y5 : Nat) (th : Nat) (k : Nat) (n : Nat) (q : Nat) (sg : Nat) (rp : Int32) (lo : Int32) (ea : Int32) (go : Nat) (ak : Nat) (gn : Nat) (gf : Nat) : MU l yX5_words wsX5_words rm_X5_words D cI [(y0, .inr (5, [.int (nI th), .int (nI k), .ref y1, .ref y2, .int (nI n), .ref y3, .int (nI q), .int (nI sg), .int rp, .int lo, .int ea, .ref y4, .ref y5, .int (nI go), .int (nI ak), .int (nI gn), .int (nI gf)]))] [.ref y0] (fun (v9 : Option Value) (u9 : Unit) => v9 = some (.int (nI n))) (fun (u9 : Unit) => [(y0, .inr (5, [.int (nI 0), .int (nI k), .ref y1, .ref y2, .int (nI n), .ref y3, .int (nI q), .int (nI sg), .int rp, .int lo, .int ea, .ref y4, .ref y5, .int (nI go), .int (nI ak), .int (nI gn), .int (nI gf)]))]) := by
  refine mu_of (C := RX5) (cc := cX5_words) (maxL := 1) (ret := (some .int)) rfl (by decide) rfl (Nat.le_of_ble_eq_true rfl) ?_
  intro pg ev sv mi ag bl mt cd ls Q A hA hQ hx hb hr hlocks hml hts hown hK hE hD H locs hP hS hl
  have hD : zDD A [y0] := hD
  have hl : lv_has ls 1 [(0, .ref y0)] := hl
  have f_39 := hts (.fieldLink RX5 39 "TelegraphDeskModel" "words" "I") (by decide +kernel)
  have hi_5 : ∀ w ∈ wsX50, w ∈ wsX5_words := by decide +kernel
  refine lv_aload_n hx hb dX5_words_0 rfl (lv_at hl 0 rfl) ?_
  refine lv_aload_n hx hb dX5_words_1 rfl (lv_at hl 0 rfl) ?_
  refine va_get (v := .int (nI n)) hx hb hts hi_5 hown hK hP 0 rfl rfl 4 (by decide) f_39 (fun _ h => h) rfl dX5_words_2 ?_
  refine z_muV (As := [.int (nI n)]) (rest := []) ⟨hx, hb, hml, hown, hts⟩ (c_X5_told l D cI y0 y1 y2 y3 y4 y5 th k n q sg rp lo ea go ak gn gf (nI n)) (cwV 1 hts gX5_words_X5_told rfl rfl rfl hd_X5_told ⟨Nat.le_of_ble_eq_true rfl, Nat.le_of_ble_eq_true rfl⟩) ⟨hK, hE⟩ hP hD rfl hS [0] (by decide) rfl (fun _ => rfl) (va_recv hK hP (ci := 5) (q0 := 0) rfl rfl) rfl hl.1 rfl (Nat.le_of_ble_eq_true rfl) dX5_words_5 (Nat.zero_le _) (Nat.zero_le _) (fun v9 u9 H locs hp hP hS => ?_)
  obtain rfl := hp
  have hP : va_P D vwCl [(y0, .inr (5, [.int (nI 0), .int (nI k), .ref y1, .ref y2, .int (nI n), .ref y3, .int (nI q), .int (nI sg), .int rp, .int lo, .int ea, .ref y4, .ref y5, .int (nI go), .int (nI ak), .int (nI gn), .int (nI gf)]))] H := hP
  refine W.eq (g2 := F0 mi 8 ls [.int (nI n)]) rfl ?_
  exact mu_iret hA hQ hx hb hr hlocks () hP hS rfl dX5_words_8
set_option maxHeartbeats 4000000 in
set_option maxRecDepth 100000 in
theorem c_X5_sentGroups (l : Launch) (D : va_G) (cI : ClassId) (y0 : Nat) (y1 : Nat) (y2 : Nat) (y3 : Nat) (y4 : Nat) (y5 : Nat) (th : Nat) (k : Nat) (n : Nat) (q : Nat) (sg : Nat) (rp : Int32) (lo : Int32) (ea : Int32) (go : Nat) (ak : Nat) (gn : Nat) (gf : Nat) : MU l yX5_sentGroups wsX5_sentGroups rm_X5_sentGroups D cI [(y0, .inr (5, [.int (nI th), .int (nI k), .ref y1, .ref y2, .int (nI n), .ref y3, .int (nI q), .int (nI sg), .int rp, .int lo, .int ea, .ref y4, .ref y5, .int (nI go), .int (nI ak), .int (nI gn), .int (nI gf)]))] [.ref y0] (fun (v9 : Option Value) (u9 : Unit) => v9 = some (.int (nI sg))) (fun (u9 : Unit) => [(y0, .inr (5, [.int (nI 0), .int (nI k), .ref y1, .ref y2, .int (nI n), .ref y3, .int (nI q), .int (nI sg), .int rp, .int lo, .int ea, .ref y4, .ref y5, .int (nI go), .int (nI ak), .int (nI gn), .int (nI gf)]))]) := by
  refine mu_of (C := RX5) (cc := cX5_sentGroups) (maxL := 1) (ret := (some .int)) rfl (by decide) rfl (Nat.le_of_ble_eq_true rfl) ?_
  intro pg ev sv mi ag bl mt cd ls Q A hA hQ hx hb hr hlocks hml hts hown hK hE hD H locs hP hS hl
  have hD : zDD A [y0] := hD
  have hl : lv_has ls 1 [(0, .ref y0)] := hl
  have f_78 := hts (.fieldLink RX5 78 "TelegraphDeskModel" "sent" "I") (by decide +kernel)
  have hi_5 : ∀ w ∈ wsX50, w ∈ wsX5_sentGroups := by decide +kernel
  refine lv_aload_n hx hb dX5_sentGroups_0 rfl (lv_at hl 0 rfl) ?_
  refine lv_aload_n hx hb dX5_sentGroups_1 rfl (lv_at hl 0 rfl) ?_
  refine va_get (v := .int (nI sg)) hx hb hts hi_5 hown hK hP 0 rfl rfl 7 (by decide) f_78 (fun _ h => h) rfl dX5_sentGroups_2 ?_
  refine z_muV (As := [.int (nI sg)]) (rest := []) ⟨hx, hb, hml, hown, hts⟩ (c_X5_told l D cI y0 y1 y2 y3 y4 y5 th k n q sg rp lo ea go ak gn gf (nI sg)) (cwV 1 hts gX5_sentGroups_X5_told rfl rfl rfl hd_X5_told ⟨Nat.le_of_ble_eq_true rfl, Nat.le_of_ble_eq_true rfl⟩) ⟨hK, hE⟩ hP hD rfl hS [0] (by decide) rfl (fun _ => rfl) (va_recv hK hP (ci := 5) (q0 := 0) rfl rfl) rfl hl.1 rfl (Nat.le_of_ble_eq_true rfl) dX5_sentGroups_5 (Nat.zero_le _) (Nat.zero_le _) (fun v9 u9 H locs hp hP hS => ?_)
  obtain rfl := hp
  have hP : va_P D vwCl [(y0, .inr (5, [.int (nI 0), .int (nI k), .ref y1, .ref y2, .int (nI n), .ref y3, .int (nI q), .int (nI sg), .int rp, .int lo, .int ea, .ref y4, .ref y5, .int (nI go), .int (nI ak), .int (nI gn), .int (nI gf)]))] H := hP
  refine W.eq (g2 := F0 mi 8 ls [.int (nI sg)]) rfl ?_
  exact mu_iret hA hQ hx hb hr hlocks () hP hS rfl dX5_sentGroups_8
set_option maxHeartbeats 4000000 in
set_option maxRecDepth 100000 in
theorem c_X5_repeats (l : Launch) (D : va_G) (cI : ClassId) (y0 : Nat) (y1 : Nat) (y2 : Nat) (y3 : Nat) (y4 : Nat) (y5 : Nat) (th : Nat) (k : Nat) (n : Nat) (q : Nat) (sg : Nat) (rp : Int32) (lo : Int32) (ea : Int32) (go : Nat) (ak : Nat) (gn : Nat) (gf : Nat) : MU l yX5_repeats wsX5_repeats rm_X5_repeats D cI [(y0, .inr (5, [.int (nI th), .int (nI k), .ref y1, .ref y2, .int (nI n), .ref y3, .int (nI q), .int (nI sg), .int rp, .int lo, .int ea, .ref y4, .ref y5, .int (nI go), .int (nI ak), .int (nI gn), .int (nI gf)]))] [.ref y0] (fun (v9 : Option Value) (u9 : Unit) => v9 = some (.int rp)) (fun (u9 : Unit) => [(y0, .inr (5, [.int (nI 0), .int (nI k), .ref y1, .ref y2, .int (nI n), .ref y3, .int (nI q), .int (nI sg), .int rp, .int lo, .int ea, .ref y4, .ref y5, .int (nI go), .int (nI ak), .int (nI gn), .int (nI gf)]))]) := by
  refine mu_of (C := RX5) (cc := cX5_repeats) (maxL := 1) (ret := (some .int)) rfl (by decide) rfl (Nat.le_of_ble_eq_true rfl) ?_
  intro pg ev sv mi ag bl mt cd ls Q A hA hQ hx hb hr hlocks hml hts hown hK hE hD H locs hP hS hl
  have hD : zDD A [y0] := hD
  have hl : lv_has ls 1 [(0, .ref y0)] := hl
  have f_119 := hts (.fieldLink RX5 119 "TelegraphDeskModel" "repeats" "I") (by decide +kernel)
  have hi_5 : ∀ w ∈ wsX50, w ∈ wsX5_repeats := by decide +kernel
  refine lv_aload_n hx hb dX5_repeats_0 rfl (lv_at hl 0 rfl) ?_
  refine lv_aload_n hx hb dX5_repeats_1 rfl (lv_at hl 0 rfl) ?_
  refine va_get (v := .int rp) hx hb hts hi_5 hown hK hP 0 rfl rfl 8 (by decide) f_119 (fun _ h => h) rfl dX5_repeats_2 ?_
  refine z_muV (As := [.int rp]) (rest := []) ⟨hx, hb, hml, hown, hts⟩ (c_X5_told l D cI y0 y1 y2 y3 y4 y5 th k n q sg rp lo ea go ak gn gf rp) (cwV 1 hts gX5_repeats_X5_told rfl rfl rfl hd_X5_told ⟨Nat.le_of_ble_eq_true rfl, Nat.le_of_ble_eq_true rfl⟩) ⟨hK, hE⟩ hP hD rfl hS [0] (by decide) rfl (fun _ => rfl) (va_recv hK hP (ci := 5) (q0 := 0) rfl rfl) rfl hl.1 rfl (Nat.le_of_ble_eq_true rfl) dX5_repeats_5 (Nat.zero_le _) (Nat.zero_le _) (fun v9 u9 H locs hp hP hS => ?_)
  obtain rfl := hp
  have hP : va_P D vwCl [(y0, .inr (5, [.int (nI 0), .int (nI k), .ref y1, .ref y2, .int (nI n), .ref y3, .int (nI q), .int (nI sg), .int rp, .int lo, .int ea, .ref y4, .ref y5, .int (nI go), .int (nI ak), .int (nI gn), .int (nI gf)]))] H := hP
  refine W.eq (g2 := F0 mi 8 ls [.int rp]) rfl ?_
  exact mu_iret hA hQ hx hb hr hlocks () hP hS rfl dX5_repeats_8
set_option maxHeartbeats 4000000 in
set_option maxRecDepth 100000 in
theorem c_X5_lost (l : Launch) (D : va_G) (cI : ClassId) (y0 : Nat) (y1 : Nat) (y2 : Nat) (y3 : Nat) (y4 : Nat) (y5 : Nat) (th : Nat) (k : Nat) (n : Nat) (q : Nat) (sg : Nat) (rp : Int32) (lo : Int32) (ea : Int32) (go : Nat) (ak : Nat) (gn : Nat) (gf : Nat) : MU l yX5_lost wsX5_lost rm_X5_lost D cI [(y0, .inr (5, [.int (nI th), .int (nI k), .ref y1, .ref y2, .int (nI n), .ref y3, .int (nI q), .int (nI sg), .int rp, .int lo, .int ea, .ref y4, .ref y5, .int (nI go), .int (nI ak), .int (nI gn), .int (nI gf)]))] [.ref y0] (fun (v9 : Option Value) (u9 : Unit) => v9 = some (.int lo)) (fun (u9 : Unit) => [(y0, .inr (5, [.int (nI 0), .int (nI k), .ref y1, .ref y2, .int (nI n), .ref y3, .int (nI q), .int (nI sg), .int rp, .int lo, .int ea, .ref y4, .ref y5, .int (nI go), .int (nI ak), .int (nI gn), .int (nI gf)]))]) := by
  refine mu_of (C := RX5) (cc := cX5_lost) (maxL := 1) (ret := (some .int)) rfl (by decide) rfl (Nat.le_of_ble_eq_true rfl) ?_
  intro pg ev sv mi ag bl mt cd ls Q A hA hQ hx hb hr hlocks hml hts hown hK hE hD H locs hP hS hl
  have hD : zDD A [y0] := hD
  have hl : lv_has ls 1 [(0, .ref y0)] := hl
  have f_122 := hts (.fieldLink RX5 122 "TelegraphDeskModel" "lost" "I") (by decide +kernel)
  have hi_5 : ∀ w ∈ wsX50, w ∈ wsX5_lost := by decide +kernel
  refine lv_aload_n hx hb dX5_lost_0 rfl (lv_at hl 0 rfl) ?_
  refine lv_aload_n hx hb dX5_lost_1 rfl (lv_at hl 0 rfl) ?_
  refine va_get (v := .int lo) hx hb hts hi_5 hown hK hP 0 rfl rfl 9 (by decide) f_122 (fun _ h => h) rfl dX5_lost_2 ?_
  refine z_muV (As := [.int lo]) (rest := []) ⟨hx, hb, hml, hown, hts⟩ (c_X5_told l D cI y0 y1 y2 y3 y4 y5 th k n q sg rp lo ea go ak gn gf lo) (cwV 1 hts gX5_lost_X5_told rfl rfl rfl hd_X5_told ⟨Nat.le_of_ble_eq_true rfl, Nat.le_of_ble_eq_true rfl⟩) ⟨hK, hE⟩ hP hD rfl hS [0] (by decide) rfl (fun _ => rfl) (va_recv hK hP (ci := 5) (q0 := 0) rfl rfl) rfl hl.1 rfl (Nat.le_of_ble_eq_true rfl) dX5_lost_5 (Nat.zero_le _) (Nat.zero_le _) (fun v9 u9 H locs hp hP hS => ?_)
  obtain rfl := hp
  have hP : va_P D vwCl [(y0, .inr (5, [.int (nI 0), .int (nI k), .ref y1, .ref y2, .int (nI n), .ref y3, .int (nI q), .int (nI sg), .int rp, .int lo, .int ea, .ref y4, .ref y5, .int (nI go), .int (nI ak), .int (nI gn), .int (nI gf)]))] H := hP
  refine W.eq (g2 := F0 mi 8 ls [.int lo]) rfl ?_
  exact mu_iret hA hQ hx hb hr hlocks () hP hS rfl dX5_lost_8
set_option maxHeartbeats 4000000 in
set_option maxRecDepth 100000 in
theorem c_X5_earned (l : Launch) (D : va_G) (cI : ClassId) (y0 : Nat) (y1 : Nat) (y2 : Nat) (y3 : Nat) (y4 : Nat) (y5 : Nat) (th : Nat) (k : Nat) (n : Nat) (q : Nat) (sg : Nat) (rp : Int32) (lo : Int32) (ea : Int32) (go : Nat) (ak : Nat) (gn : Nat) (gf : Nat) : MU l yX5_earned wsX5_earned rm_X5_earned D cI [(y0, .inr (5, [.int (nI th), .int (nI k), .ref y1, .ref y2, .int (nI n), .ref y3, .int (nI q), .int (nI sg), .int rp, .int lo, .int ea, .ref y4, .ref y5, .int (nI go), .int (nI ak), .int (nI gn), .int (nI gf)]))] [.ref y0] (fun (v9 : Option Value) (u9 : Unit) => v9 = some (.int ea)) (fun (u9 : Unit) => [(y0, .inr (5, [.int (nI 0), .int (nI k), .ref y1, .ref y2, .int (nI n), .ref y3, .int (nI q), .int (nI sg), .int rp, .int lo, .int ea, .ref y4, .ref y5, .int (nI go), .int (nI ak), .int (nI gn), .int (nI gf)]))]) := by
  refine mu_of (C := RX5) (cc := cX5_earned) (maxL := 1) (ret := (some .int)) rfl (by decide) rfl (Nat.le_of_ble_eq_true rfl) ?_
  intro pg ev sv mi ag bl mt cd ls Q A hA hQ hx hb hr hlocks hml hts hown hK hE hD H locs hP hS hl
  have hD : zDD A [y0] := hD
  have hl : lv_has ls 1 [(0, .ref y0)] := hl
  have f_113 := hts (.fieldLink RX5 113 "TelegraphDeskModel" "earned" "I") (by decide +kernel)
  have hi_5 : ∀ w ∈ wsX50, w ∈ wsX5_earned := by decide +kernel
  refine lv_aload_n hx hb dX5_earned_0 rfl (lv_at hl 0 rfl) ?_
  refine lv_aload_n hx hb dX5_earned_1 rfl (lv_at hl 0 rfl) ?_
  refine va_get (v := .int ea) hx hb hts hi_5 hown hK hP 0 rfl rfl 10 (by decide) f_113 (fun _ h => h) rfl dX5_earned_2 ?_
  refine z_muV (As := [.int ea]) (rest := []) ⟨hx, hb, hml, hown, hts⟩ (c_X5_told l D cI y0 y1 y2 y3 y4 y5 th k n q sg rp lo ea go ak gn gf ea) (cwV 1 hts gX5_earned_X5_told rfl rfl rfl hd_X5_told ⟨Nat.le_of_ble_eq_true rfl, Nat.le_of_ble_eq_true rfl⟩) ⟨hK, hE⟩ hP hD rfl hS [0] (by decide) rfl (fun _ => rfl) (va_recv hK hP (ci := 5) (q0 := 0) rfl rfl) rfl hl.1 rfl (Nat.le_of_ble_eq_true rfl) dX5_earned_5 (Nat.zero_le _) (Nat.zero_le _) (fun v9 u9 H locs hp hP hS => ?_)
  obtain rfl := hp
  have hP : va_P D vwCl [(y0, .inr (5, [.int (nI 0), .int (nI k), .ref y1, .ref y2, .int (nI n), .ref y3, .int (nI q), .int (nI sg), .int rp, .int lo, .int ea, .ref y4, .ref y5, .int (nI go), .int (nI ak), .int (nI gn), .int (nI gf)]))] H := hP
  refine W.eq (g2 := F0 mi 8 ls [.int ea]) rfl ?_
  exact mu_iret hA hQ hx hb hr hlocks () hP hS rfl dX5_earned_8
set_option maxHeartbeats 4000000 in
set_option maxRecDepth 100000 in
theorem c_X5_clear (l : Launch) (D : va_G) (cI : ClassId) (y0 : Nat) (y1 : Nat) (y2 : Nat) (y3 : Nat) (y4 : Nat) (y5 : Nat) (th : Nat) (k : Nat) (n : Nat) (q : Nat) (sg : Nat) (rp : Int32) (lo : Int32) (ea : Int32) (go : Nat) (ak : Nat) (gn : Nat) (gf : Nat) : MU l yX5_clear wsX5_clear rm_X5_clear D cI [(y0, .inr (5, [.int (nI th), .int (nI k), .ref y1, .ref y2, .int (nI n), .ref y3, .int (nI q), .int (nI sg), .int rp, .int lo, .int ea, .ref y4, .ref y5, .int (nI go), .int (nI ak), .int (nI gn), .int (nI gf)]))] [.ref y0] (fun (v9 : Option Value) (u9 : Unit) => v9 = some (.int (nI n))) (fun (u9 : Unit) => [(y0, .inr (5, [.int (nI 0), .int (nI k), .ref y1, .ref y2, .int (nI 0), .ref y3, .int (nI q), .int (nI sg), .int rp, .int lo, .int ea, .ref y4, .ref y5, .int (nI go), .int (nI ak), .int (nI gn), .int (nI gf)]))]) := by
  refine mu_of (C := RX5) (cc := cX5_clear) (maxL := 2) (ret := (some .int)) rfl (by decide) rfl (Nat.le_of_ble_eq_true rfl) ?_
  intro pg ev sv mi ag bl mt cd ls Q A hA hQ hx hb hr hlocks hml hts hown hK hE hD H locs hP hS hl
  have hD : zDD A [y0] := hD
  have hl : lv_has ls 2 [(0, .ref y0)] := hl
  have f_39 := hts (.fieldLink RX5 39 "TelegraphDeskModel" "words" "I") (by decide +kernel)
  have hi_5 : ∀ w ∈ wsX50, w ∈ wsX5_clear := by decide +kernel
  refine lv_aload_n hx hb dX5_clear_0 rfl (lv_at hl 0 rfl) ?_
  refine va_get (v := .int (nI n)) hx hb hts hi_5 hown hK hP 0 rfl rfl 4 (by decide) f_39 (fun _ h => h) rfl dX5_clear_1 ?_
  refine lv_istore_n (lv' := [(1, .int (nI n)), (0, .ref y0)]) hx hb dX5_clear_4 rfl hl (by decide) rfl (fun ls hl => ?_)
  refine lv_aload_n hx hb dX5_clear_5 rfl (lv_at hl 1 rfl) ?_
  refine lv_iconst (v := nI 0) hx hb dX5_clear_6 ci_0 ?_
  refine z_put hx hb hts hi_5 tyX5 tyX5_ok nmX5 hown hK hP hD rfl hS 0 rfl rfl 4 (by decide) f_39 (fun _ h => h) rfl (by decide +kernel) (Nat.le_of_ble_eq_true rfl) dX5_clear_7 (fun H locs hP hS => ?_)
  have hP : va_P D vwCl [(y0, .inr (5, [.int (nI th), .int (nI k), .ref y1, .ref y2, .int (nI 0), .ref y3, .int (nI q), .int (nI sg), .int rp, .int lo, .int ea, .ref y4, .ref y5, .int (nI go), .int (nI ak), .int (nI gn), .int (nI gf)]))] H := hP
  refine lv_aload_n hx hb dX5_clear_10 rfl (lv_at hl 1 rfl) ?_
  refine lv_iload_n hx hb dX5_clear_11 rfl (lv_at hl 0 rfl) ?_
  refine z_muV (As := [.int (nI n)]) (rest := []) ⟨hx, hb, hml, hown, hts⟩ (c_X5_told l D cI y0 y1 y2 y3 y4 y5 th k 0 q sg rp lo ea go ak gn gf (nI n)) (cwV 1 hts gX5_clear_X5_told rfl rfl rfl hd_X5_told ⟨Nat.le_of_ble_eq_true rfl, Nat.le_of_ble_eq_true rfl⟩) ⟨hK, hE⟩ hP hD rfl hS [0] (by decide) rfl (fun _ => rfl) (va_recv hK hP (ci := 5) (q0 := 0) rfl rfl) rfl hl.1 rfl (Nat.le_of_ble_eq_true rfl) dX5_clear_12 (Nat.zero_le _) (Nat.zero_le _) (fun v9 u9 H locs hp hP hS => ?_)
  obtain rfl := hp
  have hP : va_P D vwCl [(y0, .inr (5, [.int (nI 0), .int (nI k), .ref y1, .ref y2, .int (nI 0), .ref y3, .int (nI q), .int (nI sg), .int rp, .int lo, .int ea, .ref y4, .ref y5, .int (nI go), .int (nI ak), .int (nI gn), .int (nI gf)]))] H := hP
  refine W.eq (g2 := F0 mi 15 ls [.int (nI n)]) rfl ?_
  exact mu_iret hA hQ hx hb hr hlocks () hP hS rfl dX5_clear_15
set_option maxHeartbeats 4000000 in
set_option maxRecDepth 100000 in
theorem c_X5_lengthOf (l : Launch) (D : va_G) (cI : ClassId) (y0 : Nat) (y1 : Nat) (y2 : Nat) (y3 : Nat) (y4 : Nat) (y5 : Nat) (th : Nat) (k : Nat) (n : Nat) (q : Nat) (sg : Nat) (rp : Int32) (lo : Int32) (ea : Int32) (go : Nat) (ak : Nat) (gn : Nat) (gf : Nat) (Lm : Nat → Nat) (x : Int32) (hk : k ≤ 8) : MU l yX5_lengthOf wsX5_lengthOf rm_X5_lengthOf D cI [(y0, .inr (5, [.int (nI th), .int (nI k), .ref y1, .ref y2, .int (nI n), .ref y3, .int (nI q), .int (nI sg), .int rp, .int lo, .int ea, .ref y4, .ref y5, .int (nI go), .int (nI ak), .int (nI gn), .int (nI gf)])), (y2, .inl (cI, 9, .inl (nA Lm)))] [.ref y0, .int x] (fun (v9 : Option Value) (u9 : Nat × Int32) => v9 = some (.int u9.2) ∧ ((∃ j : Nat, j < k ∧ x = nI j ∧ u9.1 = 0 ∧ u9.2 = nI (Lm j)) ∨ ((¬ ∃ j : Nat, j < k ∧ x = nI j) ∧ u9.1 = 1 ∧ u9.2 = nI 0))) (fun (u9 : Nat × Int32) => [(y0, .inr (5, [.int (nI u9.1), .int (nI k), .ref y1, .ref y2, .int (nI n), .ref y3, .int (nI q), .int (nI sg), .int rp, .int lo, .int ea, .ref y4, .ref y5, .int (nI go), .int (nI ak), .int (nI gn), .int (nI gf)])), (y2, .inl (cI, 9, .inl (nA Lm)))]) := by
  refine mu_of (C := RX5) (cc := cX5_lengthOf) (maxL := 2) (ret := (some .int)) rfl (by decide) rfl (Nat.le_of_ble_eq_true rfl) ?_
  intro pg ev sv mi ag bl mt cd ls Q A hA hQ hx hb hr hlocks hml hts hown hK hE hD H locs hP hS hl
  have hD : zDD A [y0, y2] := hD
  have hl : lv_has ls 2 [(0, .ref y0), (1, .int x)] := hl
  have f_29 := hts (.fieldLink RX5 29 "TelegraphDeskModel" "thrown" "I") (by decide +kernel)
  have f_13 := hts (.fieldLink RX5 13 "TelegraphDeskModel" "length" "[I") (by decide +kernel)
  have hi_5 : ∀ w ∈ wsX50, w ∈ wsX5_lengthOf := by decide +kernel
  refine lv_aload_n hx hb dX5_lengthOf_0 rfl (lv_at hl 0 rfl) ?_
  refine lv_iconst (v := nI 0) hx hb dX5_lengthOf_1 ci_0 ?_
  refine z_put hx hb hts hi_5 tyX5 tyX5_ok nmX5 hown hK hP hD rfl hS 0 rfl rfl 0 (by decide) f_29 (fun _ h => h) rfl (by decide +kernel) (Nat.le_of_ble_eq_true rfl) dX5_lengthOf_2 (fun H locs hP hS => ?_)
  have hP : va_P D vwCl [(y0, .inr (5, [.int (nI 0), .int (nI k), .ref y1, .ref y2, .int (nI n), .ref y3, .int (nI q), .int (nI sg), .int rp, .int lo, .int ea, .ref y4, .ref y5, .int (nI go), .int (nI ak), .int (nI gn), .int (nI gf)])), (y2, .inl (cI, 9, .inl (nA Lm)))] H := hP
  refine lv_aload_n hx hb dX5_lengthOf_5 rfl (lv_at hl 0 rfl) ?_
  refine lv_iload_n hx hb dX5_lengthOf_6 rfl (lv_at hl 1 rfl) ?_
  refine z_roV (As := [.int x]) (rest := []) ⟨hx, hb, hml, hown, hts⟩ (c_X5_isCode l D cI y0 y1 y2 y3 y4 y5 0 k n q sg rp lo ea go ak gn gf x (by first | assumption | omega)) (cwV 1 hts gX5_lengthOf_X5_isCode rfl rfl rfl hd_X5_isCode ⟨Nat.le_of_ble_eq_true rfl, Nat.le_of_ble_eq_true rfl⟩) ⟨hK, hE⟩ (hP.sub (ws' := [(y0, .inr (5, [.int (nI 0), .int (nI k), .ref y1, .ref y2, .int (nI n), .ref y3, .int (nI q), .int (nI sg), .int rp, .int lo, .int ea, .ref y4, .ref y5, .int (nI go), .int (nI ak), .int (nI gn), .int (nI gf)]))]) [0] rfl) (va_recv hK hP (ci := 5) (q0 := 0) rfl rfl) rfl hl.1 rfl (Nat.le_of_ble_eq_true rfl) dX5_lengthOf_7 (Nat.zero_le _) (Nat.zero_le _) ?_
  refine z_if_eqP (tgt := 22) hx hb dX5_lengthOf_10 (by decide) (fun c_10 => ?_) (fun c_10 => ?_)
  · refine lv_aload_n hx hb dX5_lengthOf_22 rfl (lv_at hl 0 rfl) ?_
    refine lv_iconst (v := nI 1) hx hb dX5_lengthOf_23 ci_1 ?_
    refine z_muV (As := [.int (nI 1)]) (rest := []) ⟨hx, hb, hml, hown, hts⟩ (c_X5_fail l D cI y0 y1 y2 y3 y4 y5 0 k n q sg rp lo ea go ak gn gf 1) (cwV 1 hts gX5_lengthOf_X5_fail rfl rfl rfl hd_X5_fail ⟨Nat.le_of_ble_eq_true rfl, Nat.le_of_ble_eq_true rfl⟩) ⟨hK, hE⟩ hP hD rfl hS [0] (by decide) rfl (fun _ => rfl) (va_recv hK hP (ci := 5) (q0 := 0) rfl rfl) rfl hl.1 rfl (Nat.le_of_ble_eq_true rfl) dX5_lengthOf_24 (Nat.zero_le _) (Nat.zero_le _) (fun v9 u9 H locs hp hP hS => ?_)
    obtain rfl := hp
    have hP : va_P D vwCl [(y0, .inr (5, [.int (nI 1), .int (nI k), .ref y1, .ref y2, .int (nI n), .ref y3, .int (nI q), .int (nI sg), .int rp, .int lo, .int ea, .ref y4, .ref y5, .int (nI go), .int (nI ak), .int (nI gn), .int (nI gf)])), (y2, .inl (cI, 9, .inl (nA Lm)))] H := hP
    refine W.eq (g2 := F0 mi 27 ls [.int (nI 0)]) rfl ?_
    exact mu_iret hA hQ hx hb hr hlocks (1, nI 0) hP hS ⟨rfl, Or.inr ⟨c_10, rfl, rfl⟩⟩ dX5_lengthOf_27
  · obtain ⟨j, hj, rfl⟩ := c_10
    refine lv_aload_n hx hb dX5_lengthOf_13 rfl (lv_at hl 0 rfl) ?_
    refine va_get (v := .ref y2) hx hb hts hi_5 hown hK hP 0 rfl rfl 3 (by decide) f_13 (fun _ h => h) rfl dX5_lengthOf_14 ?_
    refine lv_iload_n hx hb dX5_lengthOf_17 rfl (lv_at hl 1 rfl) ?_
    refine z_ialdN hx hb hK hP 1 0 rfl rfl (by omega) (by decide) dX5_lengthOf_18 ?_
    refine lv_goto (tgt := 27) hx hb dX5_lengthOf_19 (by decide) ?_
    exact mu_iret hA hQ hx hb hr hlocks (0, nI (Lm j)) hP hS ⟨rfl, Or.inl ⟨j, hj, rfl, rfl, rfl⟩⟩ dX5_lengthOf_27
set_option maxHeartbeats 4000000 in
set_option maxRecDepth 100000 in
theorem c_X5_typeOf (l : Launch) (D : va_G) (cI : ClassId) (y0 : Nat) (y1 : Nat) (y2 : Nat) (y3 : Nat) (y4 : Nat) (y5 : Nat) (th : Nat) (k : Nat) (n : Nat) (q : Nat) (sg : Nat) (rp : Int32) (lo : Int32) (ea : Int32) (go : Nat) (ak : Nat) (gn : Nat) (gf : Nat) (t : Nat → Nat) (x : Int32) (hn : n ≤ 24) : MU l yX5_typeOf wsX5_typeOf rm_X5_typeOf D cI [(y0, .inr (5, [.int (nI th), .int (nI k), .ref y1, .ref y2, .int (nI n), .ref y3, .int (nI q), .int (nI sg), .int rp, .int lo, .int ea, .ref y4, .ref y5, .int (nI go), .int (nI ak), .int (nI gn), .int (nI gf)])), (y3, .inl (cI, 24, .inl (nA t)))] [.ref y0, .int x] (fun (v9 : Option Value) (u9 : Nat × Int32) => v9 = some (.int u9.2) ∧ ((∃ j : Nat, j < n ∧ x = nI j ∧ u9.1 = 0 ∧ u9.2 = nI (t j)) ∨ ((¬ ∃ j : Nat, j < n ∧ x = nI j) ∧ u9.1 = 1 ∧ u9.2 = nI 0))) (fun (u9 : Nat × Int32) => [(y0, .inr (5, [.int (nI u9.1), .int (nI k), .ref y1, .ref y2, .int (nI n), .ref y3, .int (nI q), .int (nI sg), .int rp, .int lo, .int ea, .ref y4, .ref y5, .int (nI go), .int (nI ak), .int (nI gn), .int (nI gf)])), (y3, .inl (cI, 24, .inl (nA t)))]) := by
  refine mu_of (C := RX5) (cc := cX5_typeOf) (maxL := 2) (ret := (some .int)) rfl (by decide) rfl (Nat.le_of_ble_eq_true rfl) ?_
  intro pg ev sv mi ag bl mt cd ls Q A hA hQ hx hb hr hlocks hml hts hown hK hE hD H locs hP hS hl
  have hD : zDD A [y0, y3] := hD
  have hl : lv_has ls 2 [(0, .ref y0), (1, .int x)] := hl
  have f_29 := hts (.fieldLink RX5 29 "TelegraphDeskModel" "thrown" "I") (by decide +kernel)
  have f_39 := hts (.fieldLink RX5 39 "TelegraphDeskModel" "words" "I") (by decide +kernel)
  have f_16 := hts (.fieldLink RX5 16 "TelegraphDeskModel" "type" "[I") (by decide +kernel)
  have hi_5 : ∀ w ∈ wsX50, w ∈ wsX5_typeOf := by decide +kernel
  refine lv_aload_n hx hb dX5_typeOf_0 rfl (lv_at hl 0 rfl) ?_
  refine lv_iconst (v := nI 0) hx hb dX5_typeOf_1 ci_0 ?_
  refine z_put hx hb hts hi_5 tyX5 tyX5_ok nmX5 hown hK hP hD rfl hS 0 rfl rfl 0 (by decide) f_29 (fun _ h => h) rfl (by decide +kernel) (Nat.le_of_ble_eq_true rfl) dX5_typeOf_2 (fun H locs hP hS => ?_)
  have hP : va_P D vwCl [(y0, .inr (5, [.int (nI 0), .int (nI k), .ref y1, .ref y2, .int (nI n), .ref y3, .int (nI q), .int (nI sg), .int rp, .int lo, .int ea, .ref y4, .ref y5, .int (nI go), .int (nI ak), .int (nI gn), .int (nI gf)])), (y3, .inl (cI, 24, .inl (nA t)))] H := hP
  refine lv_iload_n hx hb dX5_typeOf_5 rfl (lv_at hl 1 rfl) ?_
  refine lv_iconst (v := nI 0) hx hb dX5_typeOf_6 ci_0 ?_
  refine lv_aload_n hx hb dX5_typeOf_7 rfl (lv_at hl 0 rfl) ?_
  refine va_get (v := .int (nI n)) hx hb hts hi_5 hown hK hP 0 rfl rfl 4 (by decide) f_39 (fun _ h => h) rfl dX5_typeOf_8 ?_
  refine lv_iconst (v := nI 1) hx hb dX5_typeOf_11 ci_1 ?_
  refine lv_isub hx hb dX5_typeOf_12 ?_
  refine z_roS (As := [.int x, .int (nI 0), .int (nI n - nI 1)]) (rest := []) ⟨hx, hb, hml, hown, hts⟩ (c_X5_isIn l D cI x (nI 0) (nI n - nI 1)) (va_cwS 3 hts gX5_typeOf_X5_isIn rfl rfl rfl hd_X5_isIn ⟨Nat.le_of_ble_eq_true rfl, Nat.le_of_ble_eq_true rfl⟩) ⟨hK, hE⟩ (va_P_nil _ _ _) rfl hl.1 rfl (Nat.le_of_ble_eq_true rfl) dX5_typeOf_13 (Nat.zero_le _) (Nat.zero_le _) ?_
  refine z_if_eqP (tgt := 28) hx hb dX5_typeOf_16 (by decide) (fun c_16 => ?_) (fun c_16 => ?_)
  · refine lv_aload_n hx hb dX5_typeOf_28 rfl (lv_at hl 0 rfl) ?_
    refine lv_iconst (v := nI 1) hx hb dX5_typeOf_29 ci_1 ?_
    refine z_muV (As := [.int (nI 1)]) (rest := []) ⟨hx, hb, hml, hown, hts⟩ (c_X5_fail l D cI y0 y1 y2 y3 y4 y5 0 k n q sg rp lo ea go ak gn gf 1) (cwV 1 hts gX5_typeOf_X5_fail rfl rfl rfl hd_X5_fail ⟨Nat.le_of_ble_eq_true rfl, Nat.le_of_ble_eq_true rfl⟩) ⟨hK, hE⟩ hP hD rfl hS [0] (by decide) rfl (fun _ => rfl) (va_recv hK hP (ci := 5) (q0 := 0) rfl rfl) rfl hl.1 rfl (Nat.le_of_ble_eq_true rfl) dX5_typeOf_30 (Nat.zero_le _) (Nat.zero_le _) (fun v9 u9 H locs hp hP hS => ?_)
    obtain rfl := hp
    have hP : va_P D vwCl [(y0, .inr (5, [.int (nI 1), .int (nI k), .ref y1, .ref y2, .int (nI n), .ref y3, .int (nI q), .int (nI sg), .int rp, .int lo, .int ea, .ref y4, .ref y5, .int (nI go), .int (nI ak), .int (nI gn), .int (nI gf)])), (y3, .inl (cI, 24, .inl (nA t)))] H := hP
    refine W.eq (g2 := F0 mi 33 ls [.int (nI 0)]) rfl ?_
    exact mu_iret hA hQ hx hb hr hlocks (1, nI 0) hP hS ⟨rfl, Or.inr ⟨fun q => c_16 ((z_inK (by omega)).mpr q), rfl, rfl⟩⟩ dX5_typeOf_33
  · obtain ⟨j, hj, rfl⟩ := (z_inK (by omega)).mp c_16
    refine lv_aload_n hx hb dX5_typeOf_19 rfl (lv_at hl 0 rfl) ?_
    refine va_get (v := .ref y3) hx hb hts hi_5 hown hK hP 0 rfl rfl 5 (by decide) f_16 (fun _ h => h) rfl dX5_typeOf_20 ?_
    refine lv_iload_n hx hb dX5_typeOf_23 rfl (lv_at hl 1 rfl) ?_
    refine z_ialdN hx hb hK hP 1 0 rfl rfl (by omega) (by decide) dX5_typeOf_24 ?_
    refine lv_goto (tgt := 33) hx hb dX5_typeOf_25 (by decide) ?_
    exact mu_iret hA hQ hx hb hr hlocks (0, nI (t j)) hP hS ⟨rfl, Or.inl ⟨j, hj, rfl, rfl, rfl⟩⟩ dX5_typeOf_33
set_option maxHeartbeats 4000000 in
set_option maxRecDepth 100000 in
theorem c_X5_groups (l : Launch) (D : va_G) (cI : ClassId) (y0 : Nat) (y1 : Nat) (y2 : Nat) (y3 : Nat) (y4 : Nat) (y5 : Nat) (th : Nat) (k : Nat) (n : Nat) (q : Nat) (sg : Nat) (rp : Int32) (lo : Int32) (ea : Int32) (go : Nat) (ak : Nat) (gn : Nat) (gf : Nat) (K : Nat → Int32) (Lm : Nat → Nat) (t : Nat → Nat) (f : Nat → Nat) (C : Nat → Int32) (hn : n ≤ 24) (hk : k ≤ 8) (hLk : ∀ c, c < k → 2 ≤ Lm c ∧ Lm c ≤ 4) (hKk : ∀ c, c < k → ¬ K c = -1) : MU l yX5_groups wsX5_groups rm_X5_groups D cI [(y0, .inr (5, [.int (nI th), .int (nI k), .ref y1, .ref y2, .int (nI n), .ref y3, .int (nI q), .int (nI sg), .int rp, .int lo, .int ea, .ref y4, .ref y5, .int (nI go), .int (nI ak), .int (nI gn), .int (nI gf)])), (y1, .inl (cI, 9, .inl K)), (y2, .inl (cI, 9, .inl (nA Lm))), (y3, .inl (cI, 24, .inl (nA t))), (y4, .inl (cI, 25, .inl (nA f))), (y5, .inl (cI, 24, .inl C))] [.ref y0] (fun (v9 : Option Value) (u9 : (Nat → Nat) × (Nat → Int32)) => v9 = some (.int (nI (gM t n K Lm k (-1))))) (fun (u9 : (Nat → Nat) × (Nat → Int32)) => [(y0, .inr (5, [.int (nI 0), .int (nI k), .ref y1, .ref y2, .int (nI n), .ref y3, .int (nI q), .int (nI sg), .int rp, .int lo, .int ea, .ref y4, .ref y5, .int (nI go), .int (nI ak), .int (nI gn), .int (nI gf)])), (y1, .inl (cI, 9, .inl K)), (y2, .inl (cI, 9, .inl (nA Lm))), (y3, .inl (cI, 24, .inl (nA t))), (y4, .inl (cI, 25, .inl (nA u9.1))), (y5, .inl (cI, 24, .inl u9.2))]) := by
  refine mu_of (C := RX5) (cc := cX5_groups) (maxL := 1) (ret := (some .int)) rfl (by decide) rfl (Nat.le_of_ble_eq_true rfl) ?_
  intro pg ev sv mi ag bl mt cd ls Q A hA hQ hx hb hr hlocks hml hts hown hK hE hD H locs hP hS hl
  have hD : zDD A [y0, y1, y2, y3, y4, y5] := hD
  have hl : lv_has ls 1 [(0, .ref y0)] := hl
  refine lv_aload_n hx hb dX5_groups_0 rfl (lv_at hl 0 rfl) ?_
  refine lv_aload_n hx hb dX5_groups_1 rfl (lv_at hl 0 rfl) ?_
  refine z_muV (As := []) (rest := [.ref y0]) ⟨hx, hb, hml, hown, hts⟩ (c_X5_all l D cI y0 y1 y2 y3 y4 y5 th k n q sg rp lo ea go ak gn gf K Lm t f C (by first | assumption | omega) (by first | assumption | omega) (by first | assumption | omega) (by first | assumption | omega)) (cwV 0 hts gX5_groups_X5_all rfl rfl rfl hd_X5_all ⟨Nat.le_of_ble_eq_true rfl, Nat.le_of_ble_eq_true rfl⟩) ⟨hK, hE⟩ hP hD rfl hS [0, 1, 2, 3, 4, 5] (by decide) rfl (fun _ => rfl) (va_recv hK hP (ci := 5) (q0 := 0) rfl rfl) rfl hl.1 rfl (Nat.le_of_ble_eq_true rfl) dX5_groups_2 (Nat.zero_le _) (Nat.zero_le _) (fun v9 u9 H locs hp hP hS => ?_)
  obtain ⟨f2_2, C2_2⟩ := u9
  obtain ⟨rfl, hom_2⟩ := hp
  try dsimp only at hom_2
  have hP : va_P D vwCl [(y0, .inr (5, [.int (nI th), .int (nI k), .ref y1, .ref y2, .int (nI n), .ref y3, .int (nI q), .int (nI sg), .int rp, .int lo, .int ea, .ref y4, .ref y5, .int (nI go), .int (nI ak), .int (nI gn), .int (nI gf)])), (y1, .inl (cI, 9, .inl K)), (y2, .inl (cI, 9, .inl (nA Lm))), (y3, .inl (cI, 24, .inl (nA t))), (y4, .inl (cI, 25, .inl (nA f2_2))), (y5, .inl (cI, 24, .inl C2_2))] H := hP
  refine W.eq (g2 := F0 mi 5 ls [.int (nI (gM t n K Lm k (-1))), .ref y0]) rfl ?_
  refine z_muV (As := [.int (nI (gM t n K Lm k (-1)))]) (rest := []) ⟨hx, hb, hml, hown, hts⟩ (c_X5_told l D cI y0 y1 y2 y3 y4 y5 th k n q sg rp lo ea go ak gn gf (nI (gM t n K Lm k (-1)))) (cwV 1 hts gX5_groups_X5_told rfl rfl rfl hd_X5_told ⟨Nat.le_of_ble_eq_true rfl, Nat.le_of_ble_eq_true rfl⟩) ⟨hK, hE⟩ hP hD rfl hS [0] (by decide) rfl (fun _ => rfl) (va_recv hK hP (ci := 5) (q0 := 0) rfl rfl) rfl hl.1 rfl (Nat.le_of_ble_eq_true rfl) dX5_groups_5 (Nat.zero_le _) (Nat.zero_le _) (fun v9 u9 H locs hp hP hS => ?_)
  obtain rfl := hp
  have hP : va_P D vwCl [(y0, .inr (5, [.int (nI 0), .int (nI k), .ref y1, .ref y2, .int (nI n), .ref y3, .int (nI q), .int (nI sg), .int rp, .int lo, .int ea, .ref y4, .ref y5, .int (nI go), .int (nI ak), .int (nI gn), .int (nI gf)])), (y1, .inl (cI, 9, .inl K)), (y2, .inl (cI, 9, .inl (nA Lm))), (y3, .inl (cI, 24, .inl (nA t))), (y4, .inl (cI, 25, .inl (nA f2_2))), (y5, .inl (cI, 24, .inl C2_2))] H := hP
  refine W.eq (g2 := F0 mi 8 ls [.int (nI (gM t n K Lm k (-1)))]) rfl ?_
  exact mu_iret hA hQ hx hb hr hlocks (f2_2, C2_2) hP hS rfl dX5_groups_8
set_option maxHeartbeats 4000000 in
set_option maxRecDepth 100000 in
theorem c_X5_codeOf (l : Launch) (D : va_G) (cI : ClassId) (y0 : Nat) (y1 : Nat) (y2 : Nat) (y3 : Nat) (y4 : Nat) (y5 : Nat) (th : Nat) (k : Nat) (n : Nat) (q : Nat) (sg : Nat) (rp : Int32) (lo : Int32) (ea : Int32) (go : Nat) (ak : Nat) (gn : Nat) (gf : Nat) (K : Nat → Int32) (Lm : Nat → Nat) (t : Nat → Nat) (f : Nat → Nat) (C : Nat → Int32) (x : Int32) (hn : n ≤ 24) (hk : k ≤ 8) (hLk : ∀ c, c < k → 2 ≤ Lm c ∧ Lm c ≤ 4) (hKk : ∀ c, c < k → ¬ K c = -1) : MU l yX5_codeOf wsX5_codeOf rm_X5_codeOf D cI [(y0, .inr (5, [.int (nI th), .int (nI k), .ref y1, .ref y2, .int (nI n), .ref y3, .int (nI q), .int (nI sg), .int rp, .int lo, .int ea, .ref y4, .ref y5, .int (nI go), .int (nI ak), .int (nI gn), .int (nI gf)])), (y1, .inl (cI, 9, .inl K)), (y2, .inl (cI, 9, .inl (nA Lm))), (y3, .inl (cI, 24, .inl (nA t))), (y4, .inl (cI, 25, .inl (nA f))), (y5, .inl (cI, 24, .inl C))] [.ref y0, .int x] (fun (v9 : Option Value) (u9 : Nat × Int32 × (Nat → Nat) × (Nat → Int32)) => v9 = some (.int u9.2.1) ∧ ((∃ j : Nat, j < gM t n K Lm k (-1) ∧ x = nI j ∧ u9.1 = 0 ∧ u9.2.1 = xM t n K Lm k j) ∨ ((¬ ∃ j : Nat, j < gM t n K Lm k (-1) ∧ x = nI j) ∧ u9.1 = 1 ∧ u9.2.1 = nI 0))) (fun (u9 : Nat × Int32 × (Nat → Nat) × (Nat → Int32)) => [(y0, .inr (5, [.int (nI u9.1), .int (nI k), .ref y1, .ref y2, .int (nI n), .ref y3, .int (nI q), .int (nI sg), .int rp, .int lo, .int ea, .ref y4, .ref y5, .int (nI go), .int (nI ak), .int (nI gn), .int (nI gf)])), (y1, .inl (cI, 9, .inl K)), (y2, .inl (cI, 9, .inl (nA Lm))), (y3, .inl (cI, 24, .inl (nA t))), (y4, .inl (cI, 25, .inl (nA u9.2.2.1))), (y5, .inl (cI, 24, .inl u9.2.2.2))]) := by
  refine mu_of (C := RX5) (cc := cX5_codeOf) (maxL := 2) (ret := (some .int)) rfl (by decide) rfl (Nat.le_of_ble_eq_true rfl) ?_
  intro pg ev sv mi ag bl mt cd ls Q A hA hQ hx hb hr hlocks hml hts hown hK hE hD H locs hP hS hl
  have hD : zDD A [y0, y1, y2, y3, y4, y5] := hD
  have hl : lv_has ls 2 [(0, .ref y0), (1, .int x)] := hl
  have f_29 := hts (.fieldLink RX5 29 "TelegraphDeskModel" "thrown" "I") (by decide +kernel)
  have f_26 := hts (.fieldLink RX5 26 "TelegraphDeskModel" "first" "[I") (by decide +kernel)
  have hi_5 : ∀ w ∈ wsX50, w ∈ wsX5_codeOf := by decide +kernel
  refine lv_aload_n hx hb dX5_codeOf_0 rfl (lv_at hl 0 rfl) ?_
  refine lv_iconst (v := nI 0) hx hb dX5_codeOf_1 ci_0 ?_
  refine z_put hx hb hts hi_5 tyX5 tyX5_ok nmX5 hown hK hP hD rfl hS 0 rfl rfl 0 (by decide) f_29 (fun _ h => h) rfl (by decide +kernel) (Nat.le_of_ble_eq_true rfl) dX5_codeOf_2 (fun H locs hP hS => ?_)
  have hP : va_P D vwCl [(y0, .inr (5, [.int (nI 0), .int (nI k), .ref y1, .ref y2, .int (nI n), .ref y3, .int (nI q), .int (nI sg), .int rp, .int lo, .int ea, .ref y4, .ref y5, .int (nI go), .int (nI ak), .int (nI gn), .int (nI gf)])), (y1, .inl (cI, 9, .inl K)), (y2, .inl (cI, 9, .inl (nA Lm))), (y3, .inl (cI, 24, .inl (nA t))), (y4, .inl (cI, 25, .inl (nA f))), (y5, .inl (cI, 24, .inl C))] H := hP
  refine lv_iload_n hx hb dX5_codeOf_5 rfl (lv_at hl 1 rfl) ?_
  refine lv_iconst (v := nI 0) hx hb dX5_codeOf_6 ci_0 ?_
  refine lv_aload_n hx hb dX5_codeOf_7 rfl (lv_at hl 0 rfl) ?_
  refine z_muV (As := []) (rest := [.int (nI 0), .int x]) ⟨hx, hb, hml, hown, hts⟩ (c_X5_all l D cI y0 y1 y2 y3 y4 y5 0 k n q sg rp lo ea go ak gn gf K Lm t f C (by first | assumption | omega) (by first | assumption | omega) (by first | assumption | omega) (by first | assumption | omega)) (cwV 0 hts gX5_codeOf_X5_all rfl rfl rfl hd_X5_all ⟨Nat.le_of_ble_eq_true rfl, Nat.le_of_ble_eq_true rfl⟩) ⟨hK, hE⟩ hP hD rfl hS [0, 1, 2, 3, 4, 5] (by decide) rfl (fun _ => rfl) (va_recv hK hP (ci := 5) (q0 := 0) rfl rfl) rfl hl.1 rfl (Nat.le_of_ble_eq_true rfl) dX5_codeOf_8 (Nat.zero_le _) (Nat.zero_le _) (fun v9 u9 H locs hp hP hS => ?_)
  obtain ⟨f2_8, C2_8⟩ := u9
  obtain ⟨rfl, hom_8⟩ := hp
  try dsimp only at hom_8
  have hP : va_P D vwCl [(y0, .inr (5, [.int (nI 0), .int (nI k), .ref y1, .ref y2, .int (nI n), .ref y3, .int (nI q), .int (nI sg), .int rp, .int lo, .int ea, .ref y4, .ref y5, .int (nI go), .int (nI ak), .int (nI gn), .int (nI gf)])), (y1, .inl (cI, 9, .inl K)), (y2, .inl (cI, 9, .inl (nA Lm))), (y3, .inl (cI, 24, .inl (nA t))), (y4, .inl (cI, 25, .inl (nA f2_8))), (y5, .inl (cI, 24, .inl C2_8))] H := hP
  refine W.eq (g2 := F0 mi 11 ls [.int (nI (gM t n K Lm k (-1))), .int (nI 0), .int x]) rfl ?_
  refine lv_iconst (v := nI 1) hx hb dX5_codeOf_11 ci_1 ?_
  refine lv_isub hx hb dX5_codeOf_12 ?_
  refine z_roS (As := [.int x, .int (nI 0), .int (nI (gM t n K Lm k (-1)) - nI 1)]) (rest := []) ⟨hx, hb, hml, hown, hts⟩ (c_X5_isIn l D cI x (nI 0) (nI (gM t n K Lm k (-1)) - nI 1)) (va_cwS 3 hts gX5_codeOf_X5_isIn rfl rfl rfl hd_X5_isIn ⟨Nat.le_of_ble_eq_true rfl, Nat.le_of_ble_eq_true rfl⟩) ⟨hK, hE⟩ (va_P_nil _ _ _) rfl hl.1 rfl (Nat.le_of_ble_eq_true rfl) dX5_codeOf_13 (Nat.zero_le _) (Nat.zero_le _) ?_
  have hgl := gM_le (mbm (t := t) (n := n) hLk hKk) hom_8
  have hgi := gM_gi (mbm (t := t) (n := n) hLk hKk) hom_8
  refine z_if_eqP (tgt := 32) hx hb dX5_codeOf_16 (by decide) (fun c_16 => ?_) (fun c_16 => ?_)
  · refine lv_aload_n hx hb dX5_codeOf_32 rfl (lv_at hl 0 rfl) ?_
    refine lv_iconst (v := nI 1) hx hb dX5_codeOf_33 ci_1 ?_
    refine z_muV (As := [.int (nI 1)]) (rest := []) ⟨hx, hb, hml, hown, hts⟩ (c_X5_fail l D cI y0 y1 y2 y3 y4 y5 0 k n q sg rp lo ea go ak gn gf 1) (cwV 1 hts gX5_codeOf_X5_fail rfl rfl rfl hd_X5_fail ⟨Nat.le_of_ble_eq_true rfl, Nat.le_of_ble_eq_true rfl⟩) ⟨hK, hE⟩ hP hD rfl hS [0] (by decide) rfl (fun _ => rfl) (va_recv hK hP (ci := 5) (q0 := 0) rfl rfl) rfl hl.1 rfl (Nat.le_of_ble_eq_true rfl) dX5_codeOf_34 (Nat.zero_le _) (Nat.zero_le _) (fun v9 u9 H locs hp hP hS => ?_)
    obtain rfl := hp
    have hP : va_P D vwCl [(y0, .inr (5, [.int (nI 1), .int (nI k), .ref y1, .ref y2, .int (nI n), .ref y3, .int (nI q), .int (nI sg), .int rp, .int lo, .int ea, .ref y4, .ref y5, .int (nI go), .int (nI ak), .int (nI gn), .int (nI gf)])), (y1, .inl (cI, 9, .inl K)), (y2, .inl (cI, 9, .inl (nA Lm))), (y3, .inl (cI, 24, .inl (nA t))), (y4, .inl (cI, 25, .inl (nA f2_8))), (y5, .inl (cI, 24, .inl C2_8))] H := hP
    refine W.eq (g2 := F0 mi 37 ls [.int (nI 0)]) rfl ?_
    exact mu_iret hA hQ hx hb hr hlocks (1, nI 0, f2_8, C2_8) hP hS ⟨rfl, Or.inr ⟨fun q => c_16 ((z_inK (by omega)).mpr q), rfl, rfl⟩⟩ dX5_codeOf_37
  · obtain ⟨j, hj, rfl⟩ := (z_inK (by omega)).mp c_16
    refine lv_aload_n hx hb dX5_codeOf_19 rfl (lv_at hl 0 rfl) ?_
    refine va_get (v := .ref y5) hx hb hts hi_5 hown hK hP 0 rfl rfl 12 (by decide) f_26 (fun _ h => h) rfl dX5_codeOf_20 ?_
    refine lv_aload_n hx hb dX5_codeOf_23 rfl (lv_at hl 0 rfl) ?_
    refine lv_iload_n hx hb dX5_codeOf_24 rfl (lv_at hl 1 rfl) ?_
    refine z_roV (As := [.int (nI j)]) (rest := [.ref y5]) ⟨hx, hb, hml, hown, hts⟩ (c_X5_start l D cI y0 y1 y2 y3 y4 y5 0 k n q sg rp lo ea go ak gn gf Lm C2_8 j (by first | assumption | omega) (by omega) (fun i hi => hgi.1 i (by omega)) (om_C (by omega) hom_8)) (cwV 1 hts gX5_codeOf_X5_start rfl rfl rfl hd_X5_start ⟨Nat.le_of_ble_eq_true rfl, Nat.le_of_ble_eq_true rfl⟩) ⟨hK, hE⟩ (hP.sub (ws' := [(y0, .inr (5, [.int (nI 0), .int (nI k), .ref y1, .ref y2, .int (nI n), .ref y3, .int (nI q), .int (nI sg), .int rp, .int lo, .int ea, .ref y4, .ref y5, .int (nI go), .int (nI ak), .int (nI gn), .int (nI gf)])), (y2, .inl (cI, 9, .inl (nA Lm))), (y5, .inl (cI, 24, .inl C2_8))]) [0, 2, 5] rfl) (va_recv hK hP (ci := 5) (q0 := 0) rfl rfl) rfl hl.1 rfl (Nat.le_of_ble_eq_true rfl) dX5_codeOf_25 (Nat.zero_le _) (Nat.zero_le _) ?_
    refine z_iald hx hb hK hP 5 0 rfl rfl (by have := hgi.1 j hj; omega) (by decide) dX5_codeOf_28 ?_
    refine lv_goto (tgt := 37) hx hb dX5_codeOf_29 (by decide) ?_
    exact mu_iret hA hQ hx hb hr hlocks (0, C2_8 (posN (fM C2_8 Lm) j), f2_8, C2_8) hP hS ⟨rfl, Or.inl ⟨j, hj, rfl, rfl, xM_eq (mbm (t := t) (n := n) hLk hKk) hom_8 (fun i hi => hgi.1 i (by omega))⟩⟩ dX5_codeOf_37
set_option maxHeartbeats 4000000 in
set_option maxRecDepth 100000 in
theorem c_X5_startOf (l : Launch) (D : va_G) (cI : ClassId) (y0 : Nat) (y1 : Nat) (y2 : Nat) (y3 : Nat) (y4 : Nat) (y5 : Nat) (th : Nat) (k : Nat) (n : Nat) (q : Nat) (sg : Nat) (rp : Int32) (lo : Int32) (ea : Int32) (go : Nat) (ak : Nat) (gn : Nat) (gf : Nat) (K : Nat → Int32) (Lm : Nat → Nat) (t : Nat → Nat) (f : Nat → Nat) (C : Nat → Int32) (x : Int32) (hn : n ≤ 24) (hk : k ≤ 8) (hLk : ∀ c, c < k → 2 ≤ Lm c ∧ Lm c ≤ 4) (hKk : ∀ c, c < k → ¬ K c = -1) : MU l yX5_startOf wsX5_startOf rm_X5_startOf D cI [(y0, .inr (5, [.int (nI th), .int (nI k), .ref y1, .ref y2, .int (nI n), .ref y3, .int (nI q), .int (nI sg), .int rp, .int lo, .int ea, .ref y4, .ref y5, .int (nI go), .int (nI ak), .int (nI gn), .int (nI gf)])), (y1, .inl (cI, 9, .inl K)), (y2, .inl (cI, 9, .inl (nA Lm))), (y3, .inl (cI, 24, .inl (nA t))), (y4, .inl (cI, 25, .inl (nA f))), (y5, .inl (cI, 24, .inl C))] [.ref y0, .int x] (fun (v9 : Option Value) (u9 : Nat × Int32 × (Nat → Nat) × (Nat → Int32)) => v9 = some (.int u9.2.1) ∧ ((∃ j : Nat, j < gM t n K Lm k (-1) ∧ x = nI j ∧ u9.1 = 0 ∧ u9.2.1 = nI (pM t n K Lm k j)) ∨ ((¬ ∃ j : Nat, j < gM t n K Lm k (-1) ∧ x = nI j) ∧ u9.1 = 1 ∧ u9.2.1 = nI 0))) (fun (u9 : Nat × Int32 × (Nat → Nat) × (Nat → Int32)) => [(y0, .inr (5, [.int (nI u9.1), .int (nI k), .ref y1, .ref y2, .int (nI n), .ref y3, .int (nI q), .int (nI sg), .int rp, .int lo, .int ea, .ref y4, .ref y5, .int (nI go), .int (nI ak), .int (nI gn), .int (nI gf)])), (y1, .inl (cI, 9, .inl K)), (y2, .inl (cI, 9, .inl (nA Lm))), (y3, .inl (cI, 24, .inl (nA t))), (y4, .inl (cI, 25, .inl (nA u9.2.2.1))), (y5, .inl (cI, 24, .inl u9.2.2.2))]) := by
  refine mu_of (C := RX5) (cc := cX5_startOf) (maxL := 2) (ret := (some .int)) rfl (by decide) rfl (Nat.le_of_ble_eq_true rfl) ?_
  intro pg ev sv mi ag bl mt cd ls Q A hA hQ hx hb hr hlocks hml hts hown hK hE hD H locs hP hS hl
  have hD : zDD A [y0, y1, y2, y3, y4, y5] := hD
  have hl : lv_has ls 2 [(0, .ref y0), (1, .int x)] := hl
  have f_29 := hts (.fieldLink RX5 29 "TelegraphDeskModel" "thrown" "I") (by decide +kernel)
  have hi_5 : ∀ w ∈ wsX50, w ∈ wsX5_startOf := by decide +kernel
  refine lv_aload_n hx hb dX5_startOf_0 rfl (lv_at hl 0 rfl) ?_
  refine lv_iconst (v := nI 0) hx hb dX5_startOf_1 ci_0 ?_
  refine z_put hx hb hts hi_5 tyX5 tyX5_ok nmX5 hown hK hP hD rfl hS 0 rfl rfl 0 (by decide) f_29 (fun _ h => h) rfl (by decide +kernel) (Nat.le_of_ble_eq_true rfl) dX5_startOf_2 (fun H locs hP hS => ?_)
  have hP : va_P D vwCl [(y0, .inr (5, [.int (nI 0), .int (nI k), .ref y1, .ref y2, .int (nI n), .ref y3, .int (nI q), .int (nI sg), .int rp, .int lo, .int ea, .ref y4, .ref y5, .int (nI go), .int (nI ak), .int (nI gn), .int (nI gf)])), (y1, .inl (cI, 9, .inl K)), (y2, .inl (cI, 9, .inl (nA Lm))), (y3, .inl (cI, 24, .inl (nA t))), (y4, .inl (cI, 25, .inl (nA f))), (y5, .inl (cI, 24, .inl C))] H := hP
  refine lv_iload_n hx hb dX5_startOf_5 rfl (lv_at hl 1 rfl) ?_
  refine lv_iconst (v := nI 0) hx hb dX5_startOf_6 ci_0 ?_
  refine lv_aload_n hx hb dX5_startOf_7 rfl (lv_at hl 0 rfl) ?_
  refine z_muV (As := []) (rest := [.int (nI 0), .int x]) ⟨hx, hb, hml, hown, hts⟩ (c_X5_all l D cI y0 y1 y2 y3 y4 y5 0 k n q sg rp lo ea go ak gn gf K Lm t f C (by first | assumption | omega) (by first | assumption | omega) (by first | assumption | omega) (by first | assumption | omega)) (cwV 0 hts gX5_startOf_X5_all rfl rfl rfl hd_X5_all ⟨Nat.le_of_ble_eq_true rfl, Nat.le_of_ble_eq_true rfl⟩) ⟨hK, hE⟩ hP hD rfl hS [0, 1, 2, 3, 4, 5] (by decide) rfl (fun _ => rfl) (va_recv hK hP (ci := 5) (q0 := 0) rfl rfl) rfl hl.1 rfl (Nat.le_of_ble_eq_true rfl) dX5_startOf_8 (Nat.zero_le _) (Nat.zero_le _) (fun v9 u9 H locs hp hP hS => ?_)
  obtain ⟨f2_8, C2_8⟩ := u9
  obtain ⟨rfl, hom_8⟩ := hp
  try dsimp only at hom_8
  have hP : va_P D vwCl [(y0, .inr (5, [.int (nI 0), .int (nI k), .ref y1, .ref y2, .int (nI n), .ref y3, .int (nI q), .int (nI sg), .int rp, .int lo, .int ea, .ref y4, .ref y5, .int (nI go), .int (nI ak), .int (nI gn), .int (nI gf)])), (y1, .inl (cI, 9, .inl K)), (y2, .inl (cI, 9, .inl (nA Lm))), (y3, .inl (cI, 24, .inl (nA t))), (y4, .inl (cI, 25, .inl (nA f2_8))), (y5, .inl (cI, 24, .inl C2_8))] H := hP
  refine W.eq (g2 := F0 mi 11 ls [.int (nI (gM t n K Lm k (-1))), .int (nI 0), .int x]) rfl ?_
  refine lv_iconst (v := nI 1) hx hb dX5_startOf_11 ci_1 ?_
  refine lv_isub hx hb dX5_startOf_12 ?_
  refine z_roS (As := [.int x, .int (nI 0), .int (nI (gM t n K Lm k (-1)) - nI 1)]) (rest := []) ⟨hx, hb, hml, hown, hts⟩ (c_X5_isIn l D cI x (nI 0) (nI (gM t n K Lm k (-1)) - nI 1)) (va_cwS 3 hts gX5_startOf_X5_isIn rfl rfl rfl hd_X5_isIn ⟨Nat.le_of_ble_eq_true rfl, Nat.le_of_ble_eq_true rfl⟩) ⟨hK, hE⟩ (va_P_nil _ _ _) rfl hl.1 rfl (Nat.le_of_ble_eq_true rfl) dX5_startOf_13 (Nat.zero_le _) (Nat.zero_le _) ?_
  have hgl := gM_le (mbm (t := t) (n := n) hLk hKk) hom_8
  have hgi := gM_gi (mbm (t := t) (n := n) hLk hKk) hom_8
  refine z_if_eqP (tgt := 27) hx hb dX5_startOf_16 (by decide) (fun c_16 => ?_) (fun c_16 => ?_)
  · refine lv_aload_n hx hb dX5_startOf_27 rfl (lv_at hl 0 rfl) ?_
    refine lv_iconst (v := nI 1) hx hb dX5_startOf_28 ci_1 ?_
    refine z_muV (As := [.int (nI 1)]) (rest := []) ⟨hx, hb, hml, hown, hts⟩ (c_X5_fail l D cI y0 y1 y2 y3 y4 y5 0 k n q sg rp lo ea go ak gn gf 1) (cwV 1 hts gX5_startOf_X5_fail rfl rfl rfl hd_X5_fail ⟨Nat.le_of_ble_eq_true rfl, Nat.le_of_ble_eq_true rfl⟩) ⟨hK, hE⟩ hP hD rfl hS [0] (by decide) rfl (fun _ => rfl) (va_recv hK hP (ci := 5) (q0 := 0) rfl rfl) rfl hl.1 rfl (Nat.le_of_ble_eq_true rfl) dX5_startOf_29 (Nat.zero_le _) (Nat.zero_le _) (fun v9 u9 H locs hp hP hS => ?_)
    obtain rfl := hp
    have hP : va_P D vwCl [(y0, .inr (5, [.int (nI 1), .int (nI k), .ref y1, .ref y2, .int (nI n), .ref y3, .int (nI q), .int (nI sg), .int rp, .int lo, .int ea, .ref y4, .ref y5, .int (nI go), .int (nI ak), .int (nI gn), .int (nI gf)])), (y1, .inl (cI, 9, .inl K)), (y2, .inl (cI, 9, .inl (nA Lm))), (y3, .inl (cI, 24, .inl (nA t))), (y4, .inl (cI, 25, .inl (nA f2_8))), (y5, .inl (cI, 24, .inl C2_8))] H := hP
    refine W.eq (g2 := F0 mi 32 ls [.int (nI 0)]) rfl ?_
    exact mu_iret hA hQ hx hb hr hlocks (1, nI 0, f2_8, C2_8) hP hS ⟨rfl, Or.inr ⟨fun q => c_16 ((z_inK (by omega)).mpr q), rfl, rfl⟩⟩ dX5_startOf_32
  · obtain ⟨j, hj, rfl⟩ := (z_inK (by omega)).mp c_16
    refine lv_aload_n hx hb dX5_startOf_19 rfl (lv_at hl 0 rfl) ?_
    refine lv_iload_n hx hb dX5_startOf_20 rfl (lv_at hl 1 rfl) ?_
    refine z_roV (As := [.int (nI j)]) (rest := []) ⟨hx, hb, hml, hown, hts⟩ (c_X5_start l D cI y0 y1 y2 y3 y4 y5 0 k n q sg rp lo ea go ak gn gf Lm C2_8 j (by first | assumption | omega) (by omega) (fun i hi => hgi.1 i (by omega)) (om_C (by omega) hom_8)) (cwV 1 hts gX5_startOf_X5_start rfl rfl rfl hd_X5_start ⟨Nat.le_of_ble_eq_true rfl, Nat.le_of_ble_eq_true rfl⟩) ⟨hK, hE⟩ (hP.sub (ws' := [(y0, .inr (5, [.int (nI 0), .int (nI k), .ref y1, .ref y2, .int (nI n), .ref y3, .int (nI q), .int (nI sg), .int rp, .int lo, .int ea, .ref y4, .ref y5, .int (nI go), .int (nI ak), .int (nI gn), .int (nI gf)])), (y2, .inl (cI, 9, .inl (nA Lm))), (y5, .inl (cI, 24, .inl C2_8))]) [0, 2, 5] rfl) (va_recv hK hP (ci := 5) (q0 := 0) rfl rfl) rfl hl.1 rfl (Nat.le_of_ble_eq_true rfl) dX5_startOf_21 (Nat.zero_le _) (Nat.zero_le _) ?_
    refine lv_goto (tgt := 32) hx hb dX5_startOf_24 (by decide) ?_
    exact mu_iret hA hQ hx hb hr hlocks (0, nI (posN (fM C2_8 Lm) j), f2_8, C2_8) hP hS ⟨rfl, Or.inl ⟨j, hj, rfl, rfl, congrArg nI (pM_eq (mbm (t := t) (n := n) hLk hKk) hom_8 j (fun i hi => hgi.1 i (by omega)))⟩⟩ dX5_startOf_32
set_option maxHeartbeats 4000000 in
set_option maxRecDepth 100000 in
theorem c_X5_uses (l : Launch) (D : va_G) (cI : ClassId) (y0 : Nat) (y1 : Nat) (y2 : Nat) (y3 : Nat) (y4 : Nat) (y5 : Nat) (th : Nat) (k : Nat) (n : Nat) (q : Nat) (sg : Nat) (rp : Int32) (lo : Int32) (ea : Int32) (go : Nat) (ak : Nat) (gn : Nat) (gf : Nat) (K : Nat → Int32) (Lm : Nat → Nat) (t : Nat → Nat) (f : Nat → Nat) (C : Nat → Int32) (x : Int32) (hn : n ≤ 24) (hk : k ≤ 8) (hLk : ∀ c, c < k → 2 ≤ Lm c ∧ Lm c ≤ 4) (hKk : ∀ c, c < k → ¬ K c = -1) : MU l yX5_uses wsX5_uses rm_X5_uses D cI [(y0, .inr (5, [.int (nI th), .int (nI k), .ref y1, .ref y2, .int (nI n), .ref y3, .int (nI q), .int (nI sg), .int rp, .int lo, .int ea, .ref y4, .ref y5, .int (nI go), .int (nI ak), .int (nI gn), .int (nI gf)])), (y1, .inl (cI, 9, .inl K)), (y2, .inl (cI, 9, .inl (nA Lm))), (y3, .inl (cI, 24, .inl (nA t))), (y4, .inl (cI, 25, .inl (nA f))), (y5, .inl (cI, 24, .inl C))] [.ref y0, .int x] (fun (v9 : Option Value) (u9 : (Nat → Nat) × (Nat → Int32)) => v9 = some (.int (nI (usM t n K Lm k x)))) (fun (u9 : (Nat → Nat) × (Nat → Int32)) => [(y0, .inr (5, [.int (nI th), .int (nI k), .ref y1, .ref y2, .int (nI n), .ref y3, .int (nI q), .int (nI sg), .int rp, .int lo, .int ea, .ref y4, .ref y5, .int (nI go), .int (nI ak), .int (nI gn), .int (nI gf)])), (y1, .inl (cI, 9, .inl K)), (y2, .inl (cI, 9, .inl (nA Lm))), (y3, .inl (cI, 24, .inl (nA t))), (y4, .inl (cI, 25, .inl (nA u9.1))), (y5, .inl (cI, 24, .inl u9.2))]) := by
  refine mu_of (C := RX5) (cc := cX5_uses) (maxL := 4) (ret := (some .int)) rfl (by decide) rfl (Nat.le_of_ble_eq_true rfl) ?_
  intro pg ev sv mi ag bl mt cd ls Q A hA hQ hx hb hr hlocks hml hts hown hK hE hD H locs hP hS hl
  have hD : zDD A [y0, y1, y2, y3, y4, y5] := hD
  have hl : lv_has ls 4 [(0, .ref y0), (1, .int x)] := hl
  have f_36 := hts (.fieldLink RX5 36 "TelegraphDeskModel" "codes" "I") (by decide +kernel)
  have f_39 := hts (.fieldLink RX5 39 "TelegraphDeskModel" "words" "I") (by decide +kernel)
  have f_26 := hts (.fieldLink RX5 26 "TelegraphDeskModel" "first" "[I") (by decide +kernel)
  have hi_5 : ∀ w ∈ wsX50, w ∈ wsX5_uses := by decide +kernel
  refine lv_aload_n hx hb dX5_uses_0 rfl (lv_at hl 0 rfl) ?_
  refine lv_aload_n hx hb dX5_uses_1 rfl (lv_at hl 0 rfl) ?_
  refine va_get (v := .int (nI k)) hx hb hts hi_5 hown hK hP 0 rfl rfl 1 (by decide) f_36 (fun _ h => h) rfl dX5_uses_2 ?_
  refine lv_iconst (v := -1) hx hb dX5_uses_5 ci_m1 ?_
  refine z_muV (As := [.int (nI k), .int (-1)]) (rest := []) ⟨hx, hb, hml, hown, hts⟩ (c_X5_part l D cI y0 y1 y2 y3 y4 y5 th k n q sg rp lo ea go ak gn gf K Lm t f C k (-1) (by first | assumption | omega) (by omega) (by first | assumption | omega) (by first | assumption | omega)) (cwV 2 hts gX5_uses_X5_part rfl rfl rfl hd_X5_part ⟨Nat.le_of_ble_eq_true rfl, Nat.le_of_ble_eq_true rfl⟩) ⟨hK, hE⟩ hP hD rfl hS [0, 1, 2, 3, 4, 5] (by decide) rfl (fun _ => rfl) (va_recv hK hP (ci := 5) (q0 := 0) rfl rfl) rfl hl.1 rfl (Nat.le_of_ble_eq_true rfl) dX5_uses_6 (Nat.zero_le _) (Nat.zero_le _) (fun v9 u9 H locs hp hP hS => ?_)
  obtain ⟨f2_6, C2_6⟩ := u9
  obtain ⟨rfl, hom_6⟩ := hp
  try dsimp only at hom_6
  have hP : va_P D vwCl [(y0, .inr (5, [.int (nI th), .int (nI k), .ref y1, .ref y2, .int (nI n), .ref y3, .int (nI q), .int (nI sg), .int rp, .int lo, .int ea, .ref y4, .ref y5, .int (nI go), .int (nI ak), .int (nI gn), .int (nI gf)])), (y1, .inl (cI, 9, .inl K)), (y2, .inl (cI, 9, .inl (nA Lm))), (y3, .inl (cI, 24, .inl (nA t))), (y4, .inl (cI, 25, .inl (nA f2_6))), (y5, .inl (cI, 24, .inl C2_6))] H := hP
  refine W.eq (g2 := F0 mi 9 ls []) rfl ?_
  refine lv_iconst (v := nI 0) hx hb dX5_uses_9 ci_0 ?_
  refine lv_istore_n (lv' := [(2, .int (nI 0)), (0, .ref y0), (1, .int x)]) hx hb dX5_uses_10 rfl hl (by decide) rfl (fun ls hl => ?_)
  refine lv_iconst (v := nI 0) hx hb dX5_uses_11 ci_0 ?_
  refine lv_istore_n (lv' := [(3, .int (nI 0)), (2, .int (nI 0)), (0, .ref y0), (1, .int x)]) hx hb dX5_uses_12 rfl hl (by decide) rfl (fun ls hl => ?_)
  have lp_13 : ∀ (Nf : Nat) (g : Nat) (ac : Nat) (hp : posN (fM C2_6 Lm) g ≤ n) (hps : ∀ j, j < g → posN (fM C2_6 Lm) j < n) (hac : ac = cN (fun j => C2_6 (posN (fM C2_6 Lm) j) = x) g) (hN : n - posN (fM C2_6 Lm) g < Nf) (H : Heap) (locs : List Loc) (ls : Array Slot), va_P D vwCl [(y0, .inr (5, [.int (nI th), .int (nI k), .ref y1, .ref y2, .int (nI n), .ref y3, .int (nI q), .int (nI sg), .int rp, .int lo, .int ea, .ref y4, .ref y5, .int (nI go), .int (nI ak), .int (nI gn), .int (nI gf)])), (y1, .inl (cI, 9, .inl K)), (y2, .inl (cI, 9, .inl (nA Lm))), (y3, .inl (cI, 24, .inl (nA t))), (y4, .inl (cI, 25, .inl (nA f2_6))), (y5, .inl (cI, 24, .inl C2_6))] H → va_S A sv.heap H locs → lv_has ls 4 [(3, .int (nI (posN (fM C2_6 Lm) g))), (2, .int (nI ac)), (0, .ref y0), (1, .int x)] → W pg l ev rm_X5_uses sv mi ag bl mt cd H locs 0 0 Q (F0 mi 13 ls []) := by
    intro Nf
    induction Nf with
    | zero =>
      intro g ac hp hps hac hN
      exact absurd hN (Nat.not_lt_zero _)
    | succ Nf ih_13 =>
      intro g ac hp hps hac hN H locs ls hP hS hl
      refine lv_iload_n hx hb dX5_uses_13 rfl (lv_at hl 0 rfl) ?_
      refine lv_aload_n hx hb dX5_uses_14 rfl (lv_at hl 2 rfl) ?_
      refine va_get (v := .int (nI n)) hx hb hts hi_5 hown hK hP 0 rfl rfl 4 (by decide) f_39 (fun _ h => h) rfl dX5_uses_15 ?_
      refine z_icmp_ge (tgt := 48) hx hb dX5_uses_18 (by decide) (by omega) (by omega) (fun c_18 => ?_) (fun c_18 => ?_)
      · refine lv_iload_n hx hb dX5_uses_48 rfl (lv_at hl 1 rfl) ?_
        exact mu_iret hA hQ hx hb hr hlocks (f2_6, C2_6) hP hS (by rw [hac, usM_eq (mbm (t := t) (n := n) hLk hKk) hom_6 ⟨hps, by omega⟩]) dX5_uses_49
      · refine lv_iload_n hx hb dX5_uses_21 rfl (lv_at hl 1 rfl) ?_
        refine lv_aload_n hx hb dX5_uses_22 rfl (lv_at hl 2 rfl) ?_
        refine va_get (v := .ref y5) hx hb hts hi_5 hown hK hP 0 rfl rfl 12 (by decide) f_26 (fun _ h => h) rfl dX5_uses_23 ?_
        refine lv_iload_n hx hb dX5_uses_26 rfl (lv_at hl 0 rfl) ?_
        refine z_iald hx hb hK hP 5 0 rfl rfl (by omega) (by decide) dX5_uses_27 ?_
        refine lv_iload_n hx hb dX5_uses_28 rfl (lv_at hl 3 rfl) ?_
        refine lv_icmp_ne (tgt := 36) hx hb dX5_uses_29 (by decide) (fun c_29 => ?_) (fun c_29 => ?_)
        · refine lv_iconst (v := nI 0) hx hb dX5_uses_36 ci_0 ?_
          refine z_iadd hx hb dX5_uses_37 ?_
          refine lv_istore_n (lv' := [(2, .int (nI (ac + 0))), (3, .int (nI (posN (fM C2_6 Lm) g))), (0, .ref y0), (1, .int x)]) hx hb dX5_uses_38 rfl hl (by decide) rfl (fun ls hl => ?_)
          refine lv_aload_n hx hb dX5_uses_39 rfl (lv_at hl 2 rfl) ?_
          refine lv_iload_n hx hb dX5_uses_40 rfl (lv_at hl 1 rfl) ?_
          refine z_roV (As := [.int (nI (posN (fM C2_6 Lm) g))]) (rest := []) ⟨hx, hb, hml, hown, hts⟩ (c_X5_next l D cI y0 y1 y2 y3 y4 y5 th k n q sg rp lo ea go ak gn gf Lm C2_6 (posN (fM C2_6 Lm) g) (by omega) (om_C (by omega) hom_6 _ c_18)) (cwV 1 hts gX5_uses_X5_next rfl rfl rfl hd_X5_next ⟨Nat.le_of_ble_eq_true rfl, Nat.le_of_ble_eq_true rfl⟩) ⟨hK, hE⟩ (hP.sub (ws' := [(y0, .inr (5, [.int (nI th), .int (nI k), .ref y1, .ref y2, .int (nI n), .ref y3, .int (nI q), .int (nI sg), .int rp, .int lo, .int ea, .ref y4, .ref y5, .int (nI go), .int (nI ak), .int (nI gn), .int (nI gf)])), (y2, .inl (cI, 9, .inl (nA Lm))), (y5, .inl (cI, 24, .inl C2_6))]) [0, 2, 5] rfl) (va_recv hK hP (ci := 5) (q0 := 0) rfl rfl) rfl hl.1 rfl (Nat.le_of_ble_eq_true rfl) dX5_uses_41 (Nat.zero_le _) (Nat.zero_le _) ?_
          refine lv_istore_n (lv' := [(3, .int (nI ((posN (fM C2_6 Lm) g) + fM C2_6 Lm (posN (fM C2_6 Lm) g)))), (2, .int (nI (ac + 0))), (0, .ref y0), (1, .int x)]) hx hb dX5_uses_44 rfl hl (by decide) rfl (fun ls hl => ?_)
          refine lv_goto (tgt := 13) hx hb dX5_uses_45 (by decide) ?_
          have h9 := hom_6.2.2.2 _ (Nat.zero_le _) c_18
          exact ih_13 (g + 1) (ac + 0) (show posN (fM C2_6 Lm) g + fM C2_6 Lm (posN (fM C2_6 Lm) g) ≤ n from h9.2.1) (lt_s hps c_18) (by first | (rw [hac]; exact (cN_t c_29).symm) | (rw [hac]; exact (cN_f c_29).symm)) (show n - (posN (fM C2_6 Lm) g + fM C2_6 Lm (posN (fM C2_6 Lm) g)) < Nf by omega) H locs ls hP hS (lv_sub hl [0, 1, 2, 3] rfl)
        · refine lv_iconst (v := nI 1) hx hb dX5_uses_32 ci_1 ?_
          refine lv_goto (tgt := 37) hx hb dX5_uses_33 (by decide) ?_
          refine z_iadd hx hb dX5_uses_37 ?_
          refine lv_istore_n (lv' := [(2, .int (nI (ac + 1))), (3, .int (nI (posN (fM C2_6 Lm) g))), (0, .ref y0), (1, .int x)]) hx hb dX5_uses_38 rfl hl (by decide) rfl (fun ls hl => ?_)
          refine lv_aload_n hx hb dX5_uses_39 rfl (lv_at hl 2 rfl) ?_
          refine lv_iload_n hx hb dX5_uses_40 rfl (lv_at hl 1 rfl) ?_
          refine z_roV (As := [.int (nI (posN (fM C2_6 Lm) g))]) (rest := []) ⟨hx, hb, hml, hown, hts⟩ (c_X5_next l D cI y0 y1 y2 y3 y4 y5 th k n q sg rp lo ea go ak gn gf Lm C2_6 (posN (fM C2_6 Lm) g) (by omega) (om_C (by omega) hom_6 _ c_18)) (cwV 1 hts gX5_uses_X5_next rfl rfl rfl hd_X5_next ⟨Nat.le_of_ble_eq_true rfl, Nat.le_of_ble_eq_true rfl⟩) ⟨hK, hE⟩ (hP.sub (ws' := [(y0, .inr (5, [.int (nI th), .int (nI k), .ref y1, .ref y2, .int (nI n), .ref y3, .int (nI q), .int (nI sg), .int rp, .int lo, .int ea, .ref y4, .ref y5, .int (nI go), .int (nI ak), .int (nI gn), .int (nI gf)])), (y2, .inl (cI, 9, .inl (nA Lm))), (y5, .inl (cI, 24, .inl C2_6))]) [0, 2, 5] rfl) (va_recv hK hP (ci := 5) (q0 := 0) rfl rfl) rfl hl.1 rfl (Nat.le_of_ble_eq_true rfl) dX5_uses_41 (Nat.zero_le _) (Nat.zero_le _) ?_
          refine lv_istore_n (lv' := [(3, .int (nI ((posN (fM C2_6 Lm) g) + fM C2_6 Lm (posN (fM C2_6 Lm) g)))), (2, .int (nI (ac + 1))), (0, .ref y0), (1, .int x)]) hx hb dX5_uses_44 rfl hl (by decide) rfl (fun ls hl => ?_)
          refine lv_goto (tgt := 13) hx hb dX5_uses_45 (by decide) ?_
          have h9 := hom_6.2.2.2 _ (Nat.zero_le _) c_18
          exact ih_13 (g + 1) (ac + 1) (show posN (fM C2_6 Lm) g + fM C2_6 Lm (posN (fM C2_6 Lm) g) ≤ n from h9.2.1) (lt_s hps c_18) (by first | (rw [hac]; exact (cN_t c_29).symm) | (rw [hac]; exact (cN_f c_29).symm)) (show n - (posN (fM C2_6 Lm) g + fM C2_6 Lm (posN (fM C2_6 Lm) g)) < Nf by omega) H locs ls hP hS (lv_sub hl [0, 1, 2, 3] rfl)
  exact lp_13 ((n - posN (fM C2_6 Lm) 0) + 1) 0 0 (Nat.zero_le _) (fun _ h => absurd h (Nat.not_lt_zero _)) rfl (Nat.lt_succ_self _) H locs ls hP hS hl
set_option maxHeartbeats 4000000 in
set_option maxRecDepth 100000 in
theorem c_X5_usesOf (l : Launch) (D : va_G) (cI : ClassId) (y0 : Nat) (y1 : Nat) (y2 : Nat) (y3 : Nat) (y4 : Nat) (y5 : Nat) (th : Nat) (k : Nat) (n : Nat) (q : Nat) (sg : Nat) (rp : Int32) (lo : Int32) (ea : Int32) (go : Nat) (ak : Nat) (gn : Nat) (gf : Nat) (K : Nat → Int32) (Lm : Nat → Nat) (t : Nat → Nat) (f : Nat → Nat) (C : Nat → Int32) (x : Int32) (hn : n ≤ 24) (hk : k ≤ 8) (hLk : ∀ c, c < k → 2 ≤ Lm c ∧ Lm c ≤ 4) (hKk : ∀ c, c < k → ¬ K c = -1) : MU l yX5_usesOf wsX5_usesOf rm_X5_usesOf D cI [(y0, .inr (5, [.int (nI th), .int (nI k), .ref y1, .ref y2, .int (nI n), .ref y3, .int (nI q), .int (nI sg), .int rp, .int lo, .int ea, .ref y4, .ref y5, .int (nI go), .int (nI ak), .int (nI gn), .int (nI gf)])), (y1, .inl (cI, 9, .inl K)), (y2, .inl (cI, 9, .inl (nA Lm))), (y3, .inl (cI, 24, .inl (nA t))), (y4, .inl (cI, 25, .inl (nA f))), (y5, .inl (cI, 24, .inl C))] [.ref y0, .int x] (fun (v9 : Option Value) (u9 : Nat × Int32 × (Nat → Nat) × (Nat → Int32)) => v9 = some (.int u9.2.1) ∧ ((∃ j : Nat, j < k ∧ x = nI j ∧ u9.1 = 0 ∧ u9.2.1 = nI (usM t n K Lm k (nI j))) ∨ ((¬ ∃ j : Nat, j < k ∧ x = nI j) ∧ u9.1 = 1 ∧ u9.2.1 = nI 0))) (fun (u9 : Nat × Int32 × (Nat → Nat) × (Nat → Int32)) => [(y0, .inr (5, [.int (nI u9.1), .int (nI k), .ref y1, .ref y2, .int (nI n), .ref y3, .int (nI q), .int (nI sg), .int rp, .int lo, .int ea, .ref y4, .ref y5, .int (nI go), .int (nI ak), .int (nI gn), .int (nI gf)])), (y1, .inl (cI, 9, .inl K)), (y2, .inl (cI, 9, .inl (nA Lm))), (y3, .inl (cI, 24, .inl (nA t))), (y4, .inl (cI, 25, .inl (nA u9.2.2.1))), (y5, .inl (cI, 24, .inl u9.2.2.2))]) := by
  refine mu_of (C := RX5) (cc := cX5_usesOf) (maxL := 2) (ret := (some .int)) rfl (by decide) rfl (Nat.le_of_ble_eq_true rfl) ?_
  intro pg ev sv mi ag bl mt cd ls Q A hA hQ hx hb hr hlocks hml hts hown hK hE hD H locs hP hS hl
  have hD : zDD A [y0, y1, y2, y3, y4, y5] := hD
  have hl : lv_has ls 2 [(0, .ref y0), (1, .int x)] := hl
  have f_29 := hts (.fieldLink RX5 29 "TelegraphDeskModel" "thrown" "I") (by decide +kernel)
  have hi_5 : ∀ w ∈ wsX50, w ∈ wsX5_usesOf := by decide +kernel
  refine lv_aload_n hx hb dX5_usesOf_0 rfl (lv_at hl 0 rfl) ?_
  refine lv_iconst (v := nI 0) hx hb dX5_usesOf_1 ci_0 ?_
  refine z_put hx hb hts hi_5 tyX5 tyX5_ok nmX5 hown hK hP hD rfl hS 0 rfl rfl 0 (by decide) f_29 (fun _ h => h) rfl (by decide +kernel) (Nat.le_of_ble_eq_true rfl) dX5_usesOf_2 (fun H locs hP hS => ?_)
  have hP : va_P D vwCl [(y0, .inr (5, [.int (nI 0), .int (nI k), .ref y1, .ref y2, .int (nI n), .ref y3, .int (nI q), .int (nI sg), .int rp, .int lo, .int ea, .ref y4, .ref y5, .int (nI go), .int (nI ak), .int (nI gn), .int (nI gf)])), (y1, .inl (cI, 9, .inl K)), (y2, .inl (cI, 9, .inl (nA Lm))), (y3, .inl (cI, 24, .inl (nA t))), (y4, .inl (cI, 25, .inl (nA f))), (y5, .inl (cI, 24, .inl C))] H := hP
  refine lv_aload_n hx hb dX5_usesOf_5 rfl (lv_at hl 0 rfl) ?_
  refine lv_iload_n hx hb dX5_usesOf_6 rfl (lv_at hl 1 rfl) ?_
  refine z_roV (As := [.int x]) (rest := []) ⟨hx, hb, hml, hown, hts⟩ (c_X5_isCode l D cI y0 y1 y2 y3 y4 y5 0 k n q sg rp lo ea go ak gn gf x (by first | assumption | omega)) (cwV 1 hts gX5_usesOf_X5_isCode rfl rfl rfl hd_X5_isCode ⟨Nat.le_of_ble_eq_true rfl, Nat.le_of_ble_eq_true rfl⟩) ⟨hK, hE⟩ (hP.sub (ws' := [(y0, .inr (5, [.int (nI 0), .int (nI k), .ref y1, .ref y2, .int (nI n), .ref y3, .int (nI q), .int (nI sg), .int rp, .int lo, .int ea, .ref y4, .ref y5, .int (nI go), .int (nI ak), .int (nI gn), .int (nI gf)]))]) [0] rfl) (va_recv hK hP (ci := 5) (q0 := 0) rfl rfl) rfl hl.1 rfl (Nat.le_of_ble_eq_true rfl) dX5_usesOf_7 (Nat.zero_le _) (Nat.zero_le _) ?_
  refine z_if_eqP (tgt := 21) hx hb dX5_usesOf_10 (by decide) (fun c_10 => ?_) (fun c_10 => ?_)
  · refine lv_aload_n hx hb dX5_usesOf_21 rfl (lv_at hl 0 rfl) ?_
    refine lv_iconst (v := nI 1) hx hb dX5_usesOf_22 ci_1 ?_
    refine z_muV (As := [.int (nI 1)]) (rest := []) ⟨hx, hb, hml, hown, hts⟩ (c_X5_fail l D cI y0 y1 y2 y3 y4 y5 0 k n q sg rp lo ea go ak gn gf 1) (cwV 1 hts gX5_usesOf_X5_fail rfl rfl rfl hd_X5_fail ⟨Nat.le_of_ble_eq_true rfl, Nat.le_of_ble_eq_true rfl⟩) ⟨hK, hE⟩ hP hD rfl hS [0] (by decide) rfl (fun _ => rfl) (va_recv hK hP (ci := 5) (q0 := 0) rfl rfl) rfl hl.1 rfl (Nat.le_of_ble_eq_true rfl) dX5_usesOf_23 (Nat.zero_le _) (Nat.zero_le _) (fun v9 u9 H locs hp hP hS => ?_)
    obtain rfl := hp
    have hP : va_P D vwCl [(y0, .inr (5, [.int (nI 1), .int (nI k), .ref y1, .ref y2, .int (nI n), .ref y3, .int (nI q), .int (nI sg), .int rp, .int lo, .int ea, .ref y4, .ref y5, .int (nI go), .int (nI ak), .int (nI gn), .int (nI gf)])), (y1, .inl (cI, 9, .inl K)), (y2, .inl (cI, 9, .inl (nA Lm))), (y3, .inl (cI, 24, .inl (nA t))), (y4, .inl (cI, 25, .inl (nA f))), (y5, .inl (cI, 24, .inl C))] H := hP
    refine W.eq (g2 := F0 mi 26 ls [.int (nI 0)]) rfl ?_
    exact mu_iret hA hQ hx hb hr hlocks (1, nI 0, f, C) hP hS ⟨rfl, Or.inr ⟨c_10, rfl, rfl⟩⟩ dX5_usesOf_26
  · obtain ⟨j, hj, rfl⟩ := c_10
    refine lv_aload_n hx hb dX5_usesOf_13 rfl (lv_at hl 0 rfl) ?_
    refine lv_iload_n hx hb dX5_usesOf_14 rfl (lv_at hl 1 rfl) ?_
    refine z_muV (As := [.int (nI j)]) (rest := []) ⟨hx, hb, hml, hown, hts⟩ (c_X5_uses l D cI y0 y1 y2 y3 y4 y5 0 k n q sg rp lo ea go ak gn gf K Lm t f C (nI j) (by first | assumption | omega) (by first | assumption | omega) (by first | assumption | omega) (by first | assumption | omega)) (cwV 1 hts gX5_usesOf_X5_uses rfl rfl rfl hd_X5_uses ⟨Nat.le_of_ble_eq_true rfl, Nat.le_of_ble_eq_true rfl⟩) ⟨hK, hE⟩ hP hD rfl hS [0, 1, 2, 3, 4, 5] (by decide) rfl (fun _ => rfl) (va_recv hK hP (ci := 5) (q0 := 0) rfl rfl) rfl hl.1 rfl (Nat.le_of_ble_eq_true rfl) dX5_usesOf_15 (Nat.zero_le _) (Nat.zero_le _) (fun v9 u9 H locs hp hP hS => ?_)
    obtain ⟨f2_15, C2_15⟩ := u9
    obtain rfl := hp
    have hP : va_P D vwCl [(y0, .inr (5, [.int (nI 0), .int (nI k), .ref y1, .ref y2, .int (nI n), .ref y3, .int (nI q), .int (nI sg), .int rp, .int lo, .int ea, .ref y4, .ref y5, .int (nI go), .int (nI ak), .int (nI gn), .int (nI gf)])), (y1, .inl (cI, 9, .inl K)), (y2, .inl (cI, 9, .inl (nA Lm))), (y3, .inl (cI, 24, .inl (nA t))), (y4, .inl (cI, 25, .inl (nA f2_15))), (y5, .inl (cI, 24, .inl C2_15))] H := hP
    refine W.eq (g2 := F0 mi 18 ls [.int (nI (usM t n K Lm k (nI j)))]) rfl ?_
    refine lv_goto (tgt := 26) hx hb dX5_usesOf_18 (by decide) ?_
    exact mu_iret hA hQ hx hb hr hlocks (0, nI (usM t n K Lm k (nI j)), f2_15, C2_15) hP hS ⟨rfl, Or.inl ⟨j, hj, rfl, rfl, rfl⟩⟩ dX5_usesOf_26
set_option maxHeartbeats 4000000 in
set_option maxRecDepth 100000 in
theorem c_X5_counted (l : Launch) (D : va_G) (cI : ClassId) (y0 : Nat) (y1 : Nat) (y2 : Nat) (y3 : Nat) (y4 : Nat) (y5 : Nat) (th : Nat) (k : Nat) (n : Nat) (q : Nat) (sg : Nat) (rp : Int32) (lo : Int32) (ea : Int32) (go : Nat) (ak : Nat) (gn : Nat) (gf : Nat) (K : Nat → Int32) (Lm : Nat → Nat) (t : Nat → Nat) (f : Nat → Nat) (C : Nat → Int32) (hn : n ≤ 24) (hk : k ≤ 8) (hLk : ∀ c, c < k → 2 ≤ Lm c ∧ Lm c ≤ 4) (hKk : ∀ c, c < k → ¬ K c = -1) (ht : ∀ j, j < n → t j < 10) : MU l yX5_counted wsX5_counted rm_X5_counted D cI [(y0, .inr (5, [.int (nI th), .int (nI k), .ref y1, .ref y2, .int (nI n), .ref y3, .int (nI q), .int (nI sg), .int rp, .int lo, .int ea, .ref y4, .ref y5, .int (nI go), .int (nI ak), .int (nI gn), .int (nI gf)])), (y1, .inl (cI, 9, .inl K)), (y2, .inl (cI, 9, .inl (nA Lm))), (y3, .inl (cI, 24, .inl (nA t))), (y4, .inl (cI, 25, .inl (nA f))), (y5, .inl (cI, 24, .inl C))] [.ref y0] (fun (v9 : Option Value) (u9 : (Nat → Nat) × (Nat → Int32)) => v9 = some (.int (nI (ctM t n K Lm k)))) (fun (u9 : (Nat → Nat) × (Nat → Int32)) => [(y0, .inr (5, [.int (nI 0), .int (nI k), .ref y1, .ref y2, .int (nI n), .ref y3, .int (nI q), .int (nI sg), .int rp, .int lo, .int ea, .ref y4, .ref y5, .int (nI go), .int (nI ak), .int (nI gn), .int (nI gf)])), (y1, .inl (cI, 9, .inl K)), (y2, .inl (cI, 9, .inl (nA Lm))), (y3, .inl (cI, 24, .inl (nA t))), (y4, .inl (cI, 25, .inl (nA u9.1))), (y5, .inl (cI, 24, .inl u9.2))]) := by
  refine mu_of (C := RX5) (cc := cX5_counted) (maxL := 1) (ret := (some .int)) rfl (by decide) rfl (Nat.le_of_ble_eq_true rfl) ?_
  intro pg ev sv mi ag bl mt cd ls Q A hA hQ hx hb hr hlocks hml hts hown hK hE hD H locs hP hS hl
  have hD : zDD A [y0, y1, y2, y3, y4, y5] := hD
  have hl : lv_has ls 1 [(0, .ref y0)] := hl
  refine lv_aload_n hx hb dX5_counted_0 rfl (lv_at hl 0 rfl) ?_
  refine lv_aload_n hx hb dX5_counted_1 rfl (lv_at hl 0 rfl) ?_
  refine z_muV (As := []) (rest := [.ref y0]) ⟨hx, hb, hml, hown, hts⟩ (c_X5_count l D cI y0 y1 y2 y3 y4 y5 th k n q sg rp lo ea go ak gn gf K Lm t f C (by first | assumption | omega) (by first | assumption | omega) (by first | assumption | omega) (by first | assumption | omega) (by first | assumption | omega)) (cwV 0 hts gX5_counted_X5_count rfl rfl rfl hd_X5_count ⟨Nat.le_of_ble_eq_true rfl, Nat.le_of_ble_eq_true rfl⟩) ⟨hK, hE⟩ hP hD rfl hS [0, 1, 2, 3, 4, 5] (by decide) rfl (fun _ => rfl) (va_recv hK hP (ci := 5) (q0 := 0) rfl rfl) rfl hl.1 rfl (Nat.le_of_ble_eq_true rfl) dX5_counted_2 (Nat.zero_le _) (Nat.zero_le _) (fun v9 u9 H locs hp hP hS => ?_)
  obtain ⟨f2_2, C2_2⟩ := u9
  obtain rfl := hp
  have hP : va_P D vwCl [(y0, .inr (5, [.int (nI th), .int (nI k), .ref y1, .ref y2, .int (nI n), .ref y3, .int (nI q), .int (nI sg), .int rp, .int lo, .int ea, .ref y4, .ref y5, .int (nI go), .int (nI ak), .int (nI gn), .int (nI gf)])), (y1, .inl (cI, 9, .inl K)), (y2, .inl (cI, 9, .inl (nA Lm))), (y3, .inl (cI, 24, .inl (nA t))), (y4, .inl (cI, 25, .inl (nA f2_2))), (y5, .inl (cI, 24, .inl C2_2))] H := hP
  refine W.eq (g2 := F0 mi 5 ls [.int (nI (ctM t n K Lm k)), .ref y0]) rfl ?_
  refine z_muV (As := [.int (nI (ctM t n K Lm k))]) (rest := []) ⟨hx, hb, hml, hown, hts⟩ (c_X5_told l D cI y0 y1 y2 y3 y4 y5 th k n q sg rp lo ea go ak gn gf (nI (ctM t n K Lm k))) (cwV 1 hts gX5_counted_X5_told rfl rfl rfl hd_X5_told ⟨Nat.le_of_ble_eq_true rfl, Nat.le_of_ble_eq_true rfl⟩) ⟨hK, hE⟩ hP hD rfl hS [0] (by decide) rfl (fun _ => rfl) (va_recv hK hP (ci := 5) (q0 := 0) rfl rfl) rfl hl.1 rfl (Nat.le_of_ble_eq_true rfl) dX5_counted_5 (Nat.zero_le _) (Nat.zero_le _) (fun v9 u9 H locs hp hP hS => ?_)
  obtain rfl := hp
  have hP : va_P D vwCl [(y0, .inr (5, [.int (nI 0), .int (nI k), .ref y1, .ref y2, .int (nI n), .ref y3, .int (nI q), .int (nI sg), .int rp, .int lo, .int ea, .ref y4, .ref y5, .int (nI go), .int (nI ak), .int (nI gn), .int (nI gf)])), (y1, .inl (cI, 9, .inl K)), (y2, .inl (cI, 9, .inl (nA Lm))), (y3, .inl (cI, 24, .inl (nA t))), (y4, .inl (cI, 25, .inl (nA f2_2))), (y5, .inl (cI, 24, .inl C2_2))] H := hP
  refine W.eq (g2 := F0 mi 8 ls [.int (nI (ctM t n K Lm k))]) rfl ?_
  exact mu_iret hA hQ hx hb hr hlocks (f2_2, C2_2) hP hS rfl dX5_counted_8
set_option maxHeartbeats 4000000 in
set_option maxRecDepth 100000 in
theorem c_X5_cost (l : Launch) (D : va_G) (cI : ClassId) (y0 : Nat) (y1 : Nat) (y2 : Nat) (y3 : Nat) (y4 : Nat) (y5 : Nat) (th : Nat) (k : Nat) (n : Nat) (q : Nat) (sg : Nat) (rp : Int32) (lo : Int32) (ea : Int32) (go : Nat) (ak : Nat) (gn : Nat) (gf : Nat) (K : Nat → Int32) (Lm : Nat → Nat) (t : Nat → Nat) (f : Nat → Nat) (C : Nat → Int32) (hn : n ≤ 24) (hk : k ≤ 8) (hLk : ∀ c, c < k → 2 ≤ Lm c ∧ Lm c ≤ 4) (hKk : ∀ c, c < k → ¬ K c = -1) (ht : ∀ j, j < n → t j < 10) : MU l yX5_cost wsX5_cost rm_X5_cost D cI [(y0, .inr (5, [.int (nI th), .int (nI k), .ref y1, .ref y2, .int (nI n), .ref y3, .int (nI q), .int (nI sg), .int rp, .int lo, .int ea, .ref y4, .ref y5, .int (nI go), .int (nI ak), .int (nI gn), .int (nI gf)])), (y1, .inl (cI, 9, .inl K)), (y2, .inl (cI, 9, .inl (nA Lm))), (y3, .inl (cI, 24, .inl (nA t))), (y4, .inl (cI, 25, .inl (nA f))), (y5, .inl (cI, 24, .inl C))] [.ref y0] (fun (v9 : Option Value) (u9 : (Nat → Nat) × (Nat → Int32)) => v9 = some (.int (nI (costN n (ctM t n K Lm k))))) (fun (u9 : (Nat → Nat) × (Nat → Int32)) => [(y0, .inr (5, [.int (nI 0), .int (nI k), .ref y1, .ref y2, .int (nI n), .ref y3, .int (nI q), .int (nI sg), .int rp, .int lo, .int ea, .ref y4, .ref y5, .int (nI go), .int (nI ak), .int (nI gn), .int (nI gf)])), (y1, .inl (cI, 9, .inl K)), (y2, .inl (cI, 9, .inl (nA Lm))), (y3, .inl (cI, 24, .inl (nA t))), (y4, .inl (cI, 25, .inl (nA u9.1))), (y5, .inl (cI, 24, .inl u9.2))]) := by
  refine mu_of (C := RX5) (cc := cX5_cost) (maxL := 1) (ret := (some .int)) rfl (by decide) rfl (Nat.le_of_ble_eq_true rfl) ?_
  intro pg ev sv mi ag bl mt cd ls Q A hA hQ hx hb hr hlocks hml hts hown hK hE hD H locs hP hS hl
  have hD : zDD A [y0, y1, y2, y3, y4, y5] := hD
  have hl : lv_has ls 1 [(0, .ref y0)] := hl
  refine lv_aload_n hx hb dX5_cost_0 rfl (lv_at hl 0 rfl) ?_
  refine lv_aload_n hx hb dX5_cost_1 rfl (lv_at hl 0 rfl) ?_
  refine z_muV (As := []) (rest := [.ref y0]) ⟨hx, hb, hml, hown, hts⟩ (c_X5_priceNow l D cI y0 y1 y2 y3 y4 y5 th k n q sg rp lo ea go ak gn gf K Lm t f C (by first | assumption | omega) (by first | assumption | omega) (by first | assumption | omega) (by first | assumption | omega) (by first | assumption | omega)) (cwV 0 hts gX5_cost_X5_priceNow rfl rfl rfl hd_X5_priceNow ⟨Nat.le_of_ble_eq_true rfl, Nat.le_of_ble_eq_true rfl⟩) ⟨hK, hE⟩ hP hD rfl hS [0, 1, 2, 3, 4, 5] (by decide) rfl (fun _ => rfl) (va_recv hK hP (ci := 5) (q0 := 0) rfl rfl) rfl hl.1 rfl (Nat.le_of_ble_eq_true rfl) dX5_cost_2 (Nat.zero_le _) (Nat.zero_le _) (fun v9 u9 H locs hp hP hS => ?_)
  obtain ⟨f2_2, C2_2⟩ := u9
  obtain rfl := hp
  have hP : va_P D vwCl [(y0, .inr (5, [.int (nI th), .int (nI k), .ref y1, .ref y2, .int (nI n), .ref y3, .int (nI q), .int (nI sg), .int rp, .int lo, .int ea, .ref y4, .ref y5, .int (nI go), .int (nI ak), .int (nI gn), .int (nI gf)])), (y1, .inl (cI, 9, .inl K)), (y2, .inl (cI, 9, .inl (nA Lm))), (y3, .inl (cI, 24, .inl (nA t))), (y4, .inl (cI, 25, .inl (nA f2_2))), (y5, .inl (cI, 24, .inl C2_2))] H := hP
  refine W.eq (g2 := F0 mi 5 ls [.int (nI (costN n (ctM t n K Lm k))), .ref y0]) rfl ?_
  refine z_muV (As := [.int (nI (costN n (ctM t n K Lm k)))]) (rest := []) ⟨hx, hb, hml, hown, hts⟩ (c_X5_told l D cI y0 y1 y2 y3 y4 y5 th k n q sg rp lo ea go ak gn gf (nI (costN n (ctM t n K Lm k)))) (cwV 1 hts gX5_cost_X5_told rfl rfl rfl hd_X5_told ⟨Nat.le_of_ble_eq_true rfl, Nat.le_of_ble_eq_true rfl⟩) ⟨hK, hE⟩ hP hD rfl hS [0] (by decide) rfl (fun _ => rfl) (va_recv hK hP (ci := 5) (q0 := 0) rfl rfl) rfl hl.1 rfl (Nat.le_of_ble_eq_true rfl) dX5_cost_5 (Nat.zero_le _) (Nat.zero_le _) (fun v9 u9 H locs hp hP hS => ?_)
  obtain rfl := hp
  have hP : va_P D vwCl [(y0, .inr (5, [.int (nI 0), .int (nI k), .ref y1, .ref y2, .int (nI n), .ref y3, .int (nI q), .int (nI sg), .int rp, .int lo, .int ea, .ref y4, .ref y5, .int (nI go), .int (nI ak), .int (nI gn), .int (nI gf)])), (y1, .inl (cI, 9, .inl K)), (y2, .inl (cI, 9, .inl (nA Lm))), (y3, .inl (cI, 24, .inl (nA t))), (y4, .inl (cI, 25, .inl (nA f2_2))), (y5, .inl (cI, 24, .inl C2_2))] H := hP
  refine W.eq (g2 := F0 mi 8 ls [.int (nI (costN n (ctM t n K Lm k)))]) rfl ?_
  exact mu_iret hA hQ hx hb hr hlocks (f2_2, C2_2) hP hS rfl dX5_cost_8
set_option maxHeartbeats 4000000 in
set_option maxRecDepth 100000 in
theorem c_X5_saved (l : Launch) (D : va_G) (cI : ClassId) (y0 : Nat) (y1 : Nat) (y2 : Nat) (y3 : Nat) (y4 : Nat) (y5 : Nat) (th : Nat) (k : Nat) (n : Nat) (q : Nat) (sg : Nat) (rp : Int32) (lo : Int32) (ea : Int32) (go : Nat) (ak : Nat) (gn : Nat) (gf : Nat) (K : Nat → Int32) (Lm : Nat → Nat) (t : Nat → Nat) (f : Nat → Nat) (C : Nat → Int32) (hn : n ≤ 24) (hk : k ≤ 8) (hLk : ∀ c, c < k → 2 ≤ Lm c ∧ Lm c ≤ 4) (hKk : ∀ c, c < k → ¬ K c = -1) (ht : ∀ j, j < n → t j < 10) : MU l yX5_saved wsX5_saved rm_X5_saved D cI [(y0, .inr (5, [.int (nI th), .int (nI k), .ref y1, .ref y2, .int (nI n), .ref y3, .int (nI q), .int (nI sg), .int rp, .int lo, .int ea, .ref y4, .ref y5, .int (nI go), .int (nI ak), .int (nI gn), .int (nI gf)])), (y1, .inl (cI, 9, .inl K)), (y2, .inl (cI, 9, .inl (nA Lm))), (y3, .inl (cI, 24, .inl (nA t))), (y4, .inl (cI, 25, .inl (nA f))), (y5, .inl (cI, 24, .inl C))] [.ref y0] (fun (v9 : Option Value) (u9 : (Nat → Nat) × (Nat → Int32)) => v9 = some (.int (nI (costN n (sN (fun j => wc (t j)) n)) - nI (costN n (ctM t n K Lm k))))) (fun (u9 : (Nat → Nat) × (Nat → Int32)) => [(y0, .inr (5, [.int (nI 0), .int (nI k), .ref y1, .ref y2, .int (nI n), .ref y3, .int (nI q), .int (nI sg), .int rp, .int lo, .int ea, .ref y4, .ref y5, .int (nI go), .int (nI ak), .int (nI gn), .int (nI gf)])), (y1, .inl (cI, 9, .inl K)), (y2, .inl (cI, 9, .inl (nA Lm))), (y3, .inl (cI, 24, .inl (nA t))), (y4, .inl (cI, 25, .inl (nA u9.1))), (y5, .inl (cI, 24, .inl u9.2))]) := by
  refine mu_of (C := RX5) (cc := cX5_saved) (maxL := 1) (ret := (some .int)) rfl (by decide) rfl (Nat.le_of_ble_eq_true rfl) ?_
  intro pg ev sv mi ag bl mt cd ls Q A hA hQ hx hb hr hlocks hml hts hown hK hE hD H locs hP hS hl
  have hD : zDD A [y0, y1, y2, y3, y4, y5] := hD
  have hl : lv_has ls 1 [(0, .ref y0)] := hl
  refine lv_aload_n hx hb dX5_saved_0 rfl (lv_at hl 0 rfl) ?_
  refine lv_aload_n hx hb dX5_saved_1 rfl (lv_at hl 0 rfl) ?_
  refine z_roV (As := []) (rest := [.ref y0]) ⟨hx, hb, hml, hown, hts⟩ (c_X5_priceOfWords l D cI y0 y1 y2 y3 y4 y5 th k n q sg rp lo ea go ak gn gf t (by first | assumption | omega) (by first | assumption | omega)) (cwV 0 hts gX5_saved_X5_priceOfWords rfl rfl rfl hd_X5_priceOfWords ⟨Nat.le_of_ble_eq_true rfl, Nat.le_of_ble_eq_true rfl⟩) ⟨hK, hE⟩ (hP.sub (ws' := [(y0, .inr (5, [.int (nI th), .int (nI k), .ref y1, .ref y2, .int (nI n), .ref y3, .int (nI q), .int (nI sg), .int rp, .int lo, .int ea, .ref y4, .ref y5, .int (nI go), .int (nI ak), .int (nI gn), .int (nI gf)])), (y3, .inl (cI, 24, .inl (nA t)))]) [0, 3] rfl) (va_recv hK hP (ci := 5) (q0 := 0) rfl rfl) rfl hl.1 rfl (Nat.le_of_ble_eq_true rfl) dX5_saved_2 (Nat.zero_le _) (Nat.zero_le _) ?_
  refine lv_aload_n hx hb dX5_saved_5 rfl (lv_at hl 0 rfl) ?_
  refine z_muV (As := []) (rest := [.int (nI (costN n (sN (fun j => wc (t j)) n))), .ref y0]) ⟨hx, hb, hml, hown, hts⟩ (c_X5_priceNow l D cI y0 y1 y2 y3 y4 y5 th k n q sg rp lo ea go ak gn gf K Lm t f C (by first | assumption | omega) (by first | assumption | omega) (by first | assumption | omega) (by first | assumption | omega) (by first | assumption | omega)) (cwV 0 hts gX5_saved_X5_priceNow rfl rfl rfl hd_X5_priceNow ⟨Nat.le_of_ble_eq_true rfl, Nat.le_of_ble_eq_true rfl⟩) ⟨hK, hE⟩ hP hD rfl hS [0, 1, 2, 3, 4, 5] (by decide) rfl (fun _ => rfl) (va_recv hK hP (ci := 5) (q0 := 0) rfl rfl) rfl hl.1 rfl (Nat.le_of_ble_eq_true rfl) dX5_saved_6 (Nat.zero_le _) (Nat.zero_le _) (fun v9 u9 H locs hp hP hS => ?_)
  obtain ⟨f2_6, C2_6⟩ := u9
  obtain rfl := hp
  have hP : va_P D vwCl [(y0, .inr (5, [.int (nI th), .int (nI k), .ref y1, .ref y2, .int (nI n), .ref y3, .int (nI q), .int (nI sg), .int rp, .int lo, .int ea, .ref y4, .ref y5, .int (nI go), .int (nI ak), .int (nI gn), .int (nI gf)])), (y1, .inl (cI, 9, .inl K)), (y2, .inl (cI, 9, .inl (nA Lm))), (y3, .inl (cI, 24, .inl (nA t))), (y4, .inl (cI, 25, .inl (nA f2_6))), (y5, .inl (cI, 24, .inl C2_6))] H := hP
  refine W.eq (g2 := F0 mi 9 ls [.int (nI (costN n (ctM t n K Lm k))), .int (nI (costN n (sN (fun j => wc (t j)) n))), .ref y0]) rfl ?_
  refine lv_isub hx hb dX5_saved_9 ?_
  refine z_muV (As := [.int (nI (costN n (sN (fun j => wc (t j)) n)) - nI (costN n (ctM t n K Lm k)))]) (rest := []) ⟨hx, hb, hml, hown, hts⟩ (c_X5_told l D cI y0 y1 y2 y3 y4 y5 th k n q sg rp lo ea go ak gn gf (nI (costN n (sN (fun j => wc (t j)) n)) - nI (costN n (ctM t n K Lm k)))) (cwV 1 hts gX5_saved_X5_told rfl rfl rfl hd_X5_told ⟨Nat.le_of_ble_eq_true rfl, Nat.le_of_ble_eq_true rfl⟩) ⟨hK, hE⟩ hP hD rfl hS [0] (by decide) rfl (fun _ => rfl) (va_recv hK hP (ci := 5) (q0 := 0) rfl rfl) rfl hl.1 rfl (Nat.le_of_ble_eq_true rfl) dX5_saved_10 (Nat.zero_le _) (Nat.zero_le _) (fun v9 u9 H locs hp hP hS => ?_)
  obtain rfl := hp
  have hP : va_P D vwCl [(y0, .inr (5, [.int (nI 0), .int (nI k), .ref y1, .ref y2, .int (nI n), .ref y3, .int (nI q), .int (nI sg), .int rp, .int lo, .int ea, .ref y4, .ref y5, .int (nI go), .int (nI ak), .int (nI gn), .int (nI gf)])), (y1, .inl (cI, 9, .inl K)), (y2, .inl (cI, 9, .inl (nA Lm))), (y3, .inl (cI, 24, .inl (nA t))), (y4, .inl (cI, 25, .inl (nA f2_6))), (y5, .inl (cI, 24, .inl C2_6))] H := hP
  refine W.eq (g2 := F0 mi 13 ls [.int (nI (costN n (sN (fun j => wc (t j)) n)) - nI (costN n (ctM t n K Lm k)))]) rfl ?_
  exact mu_iret hA hQ hx hb hr hlocks (f2_6, C2_6) hP hS rfl dX5_saved_13
set_option maxHeartbeats 4000000 in
set_option maxRecDepth 100000 in
theorem c_X5_until (l : Launch) (D : va_G) (cI : ClassId) (y0 : Nat) (y1 : Nat) (y2 : Nat) (y3 : Nat) (y4 : Nat) (y5 : Nat) (th : Nat) (k : Nat) (n : Nat) (q : Nat) (sg : Nat) (rp : Int32) (lo : Int32) (ea : Int32) (go : Nat) (ak : Nat) (gn : Nat) (gf : Nat) (hq : q ≤ 9) (hsg : sg ≤ 60000) : RO l yX5_until wsX5_until rm_X5_until D cI [(y0, .inr (5, [.int (nI th), .int (nI k), .ref y1, .ref y2, .int (nI n), .ref y3, .int (nI q), .int (nI sg), .int rp, .int lo, .int ea, .ref y4, .ref y5, .int (nI go), .int (nI ak), .int (nI gn), .int (nI gf)]))] [.ref y0] (.int (nI (utN q sg))) := by
  refine ro_of (C := RX5) (cc := cX5_until) (maxL := 2) (ret := (some .int)) rfl (by decide) rfl (Nat.le_of_ble_eq_true rfl) ?_
  intro pg ev sv mi ag bl mt cd ls Q hQ hx hb hr hlocks hml hts hown hK hE hP hl
  have hP : va_P D vwCl [(y0, .inr (5, [.int (nI th), .int (nI k), .ref y1, .ref y2, .int (nI n), .ref y3, .int (nI q), .int (nI sg), .int rp, .int lo, .int ea, .ref y4, .ref y5, .int (nI go), .int (nI ak), .int (nI gn), .int (nI gf)]))] sv.heap := hP
  have hl : lv_has ls 2 [(0, .ref y0)] := hl
  have f_78 := hts (.fieldLink RX5 78 "TelegraphDeskModel" "sent" "I") (by decide +kernel)
  have f_19 := hts (.fieldLink RX5 19 "TelegraphDeskModel" "quality" "I") (by decide +kernel)
  have hi_5 : ∀ w ∈ wsX50, w ∈ wsX5_until := by decide +kernel
  obtain ⟨j9, hj1, hj2, hj3⟩ := gB_near hq sg
  refine lv_iconst (v := nI 1) hx hb dX5_until_0 ci_1 ?_
  refine lv_istore_n (lv' := [(1, .int (nI 1)), (0, .ref y0)]) hx hb dX5_until_1 rfl hl (by decide) rfl (fun ls hl => ?_)
  have lp_2 : ∀ (Nf : Nat) (i : Nat) (hi : 1 ≤ i ∧ i ≤ 20) (hall : ∀ j, 1 ≤ j → j < i → ¬ gB q (sg + j)) (hN : 21 - i < Nf) (ls : Array Slot), lv_has ls 2 [(1, .int (nI i)), (0, .ref y0)] → W pg l ev rm_X5_until sv mi ag bl mt cd sv.heap [] 0 0 Q (F0 mi 2 ls []) := by
    intro Nf
    induction Nf with
    | zero =>
      intro i hi hall hN
      exact absurd hN (Nat.not_lt_zero _)
    | succ Nf ih_2 =>
      intro i hi hall hN ls hl
      refine lv_aload_n hx hb dX5_until_2 rfl (lv_at hl 1 rfl) ?_
      refine va_get (v := .int (nI sg)) hx hb hts hi_5 hown hK hP 0 rfl rfl 7 (by decide) f_78 (fun _ h => h) rfl dX5_until_3 ?_
      refine lv_iload_n hx hb dX5_until_6 rfl (lv_at hl 0 rfl) ?_
      refine z_iadd hx hb dX5_until_7 ?_
      refine lv_aload_n hx hb dX5_until_8 rfl (lv_at hl 1 rfl) ?_
      refine va_get (v := .int (nI q)) hx hb hts hi_5 hown hK hP 0 rfl rfl 6 (by decide) f_19 (fun _ h => h) rfl dX5_until_9 ?_
      refine z_roS (As := [.int (nI (sg + i)), .int (nI q)]) (rest := []) ⟨hx, hb, hml, hown, hts⟩ (c_X5_isGarbled l D cI (sg + i) q (by omega) (by first | assumption | omega)) (va_cwS 2 hts gX5_until_X5_isGarbled rfl rfl rfl hd_X5_isGarbled ⟨Nat.le_of_ble_eq_true rfl, Nat.le_of_ble_eq_true rfl⟩) ⟨hK, hE⟩ (va_P_nil _ _ _) rfl hl.1 rfl (Nat.le_of_ble_eq_true rfl) dX5_until_12 (Nat.zero_le _) (Nat.zero_le _) ?_
      refine z_if_neP (tgt := 24) hx hb dX5_until_15 (by decide) (fun c_15 => ?_) (fun c_15 => ?_)
      · refine lv_iload_n hx hb dX5_until_24 rfl (lv_at hl 0 rfl) ?_
        exact ro_iret hQ hx hb hr hlocks (congrArg nI (utN_eq hi.1 c_15 hall)) dX5_until_25
      · refine lv_iinc (v := nI (i + 1)) (lv' := [(1, .int (nI (i + 1))), (0, .ref y0)]) hx hb dX5_until_18 hl (k := 0) rfl (z_inc1 _) (by decide) rfl (fun ls hl => ?_)
        refine lv_goto (tgt := 2) hx hb dX5_until_21 (by decide) ?_
        exact ih_2 (i + 1) ⟨by omega, by have h8 : ¬ j9 ≤ i := fun z => (by rcases Nat.lt_or_eq_of_le z with z | z; exact hall j9 hj1 z hj3; rw [z] at hj3; exact c_15 hj3); omega⟩ (fun j a b => by rcases (by omega : j < i ∨ j = i) with z | z; exact hall j a z; rw [z]; exact c_15) (by omega) ls (lv_sub hl [0, 1] rfl)
  exact lp_2 ((21 - 1) + 1) 1 (⟨Nat.le_refl _, by omega⟩) (fun j a b => by omega) (Nat.lt_succ_self _) ls hl
set_option maxHeartbeats 4000000 in
set_option maxRecDepth 100000 in
theorem c_X5_untilGarbled (l : Launch) (D : va_G) (cI : ClassId) (y0 : Nat) (y1 : Nat) (y2 : Nat) (y3 : Nat) (y4 : Nat) (y5 : Nat) (th : Nat) (k : Nat) (n : Nat) (q : Nat) (sg : Nat) (rp : Int32) (lo : Int32) (ea : Int32) (go : Nat) (ak : Nat) (gn : Nat) (gf : Nat) (hq : q ≤ 9) (hsg : sg ≤ 60000) : MU l yX5_untilGarbled wsX5_untilGarbled rm_X5_untilGarbled D cI [(y0, .inr (5, [.int (nI th), .int (nI k), .ref y1, .ref y2, .int (nI n), .ref y3, .int (nI q), .int (nI sg), .int rp, .int lo, .int ea, .ref y4, .ref y5, .int (nI go), .int (nI ak), .int (nI gn), .int (nI gf)]))] [.ref y0] (fun (v9 : Option Value) (u9 : Unit) => v9 = some (.int (nI (utN q sg)))) (fun (u9 : Unit) => [(y0, .inr (5, [.int (nI 0), .int (nI k), .ref y1, .ref y2, .int (nI n), .ref y3, .int (nI q), .int (nI sg), .int rp, .int lo, .int ea, .ref y4, .ref y5, .int (nI go), .int (nI ak), .int (nI gn), .int (nI gf)]))]) := by
  refine mu_of (C := RX5) (cc := cX5_untilGarbled) (maxL := 1) (ret := (some .int)) rfl (by decide) rfl (Nat.le_of_ble_eq_true rfl) ?_
  intro pg ev sv mi ag bl mt cd ls Q A hA hQ hx hb hr hlocks hml hts hown hK hE hD H locs hP hS hl
  have hD : zDD A [y0] := hD
  have hl : lv_has ls 1 [(0, .ref y0)] := hl
  refine lv_aload_n hx hb dX5_untilGarbled_0 rfl (lv_at hl 0 rfl) ?_
  refine lv_aload_n hx hb dX5_untilGarbled_1 rfl (lv_at hl 0 rfl) ?_
  refine z_roV (As := []) (rest := [.ref y0]) ⟨hx, hb, hml, hown, hts⟩ (c_X5_until l D cI y0 y1 y2 y3 y4 y5 th k n q sg rp lo ea go ak gn gf (by first | assumption | omega) (by first | assumption | omega)) (cwV 0 hts gX5_untilGarbled_X5_until rfl rfl rfl hd_X5_until ⟨Nat.le_of_ble_eq_true rfl, Nat.le_of_ble_eq_true rfl⟩) ⟨hK, hE⟩ (hP.sub (ws' := [(y0, .inr (5, [.int (nI th), .int (nI k), .ref y1, .ref y2, .int (nI n), .ref y3, .int (nI q), .int (nI sg), .int rp, .int lo, .int ea, .ref y4, .ref y5, .int (nI go), .int (nI ak), .int (nI gn), .int (nI gf)]))]) [0] rfl) (va_recv hK hP (ci := 5) (q0 := 0) rfl rfl) rfl hl.1 rfl (Nat.le_of_ble_eq_true rfl) dX5_untilGarbled_2 (Nat.zero_le _) (Nat.zero_le _) ?_
  refine z_muV (As := [.int (nI (utN q sg))]) (rest := []) ⟨hx, hb, hml, hown, hts⟩ (c_X5_told l D cI y0 y1 y2 y3 y4 y5 th k n q sg rp lo ea go ak gn gf (nI (utN q sg))) (cwV 1 hts gX5_untilGarbled_X5_told rfl rfl rfl hd_X5_told ⟨Nat.le_of_ble_eq_true rfl, Nat.le_of_ble_eq_true rfl⟩) ⟨hK, hE⟩ hP hD rfl hS [0] (by decide) rfl (fun _ => rfl) (va_recv hK hP (ci := 5) (q0 := 0) rfl rfl) rfl hl.1 rfl (Nat.le_of_ble_eq_true rfl) dX5_untilGarbled_5 (Nat.zero_le _) (Nat.zero_le _) (fun v9 u9 H locs hp hP hS => ?_)
  obtain rfl := hp
  have hP : va_P D vwCl [(y0, .inr (5, [.int (nI 0), .int (nI k), .ref y1, .ref y2, .int (nI n), .ref y3, .int (nI q), .int (nI sg), .int rp, .int lo, .int ea, .ref y4, .ref y5, .int (nI go), .int (nI ak), .int (nI gn), .int (nI gf)]))] H := hP
  refine W.eq (g2 := F0 mi 8 ls [.int (nI (utN q sg))]) rfl ?_
  exact mu_iret hA hQ hx hb hr hlocks () hP hS rfl dX5_untilGarbled_8
set_option maxHeartbeats 4000000 in
set_option maxRecDepth 100000 in
theorem c_X5_garbled (l : Launch) (D : va_G) (cI : ClassId) (y0 : Nat) (y1 : Nat) (y2 : Nat) (y3 : Nat) (y4 : Nat) (y5 : Nat) (th : Nat) (k : Nat) (n : Nat) (q : Nat) (sg : Nat) (rp : Int32) (lo : Int32) (ea : Int32) (go : Nat) (ak : Nat) (gn : Nat) (gf : Nat) (K : Nat → Int32) (Lm : Nat → Nat) (t : Nat → Nat) (f : Nat → Nat) (C : Nat → Int32) (hn : n ≤ 24) (hk : k ≤ 8) (hLk : ∀ c, c < k → 2 ≤ Lm c ∧ Lm c ≤ 4) (hKk : ∀ c, c < k → ¬ K c = -1) (hq : q ≤ 9) (hsg : sg ≤ 60000) : MU l yX5_garbled wsX5_garbled rm_X5_garbled D cI [(y0, .inr (5, [.int (nI th), .int (nI k), .ref y1, .ref y2, .int (nI n), .ref y3, .int (nI q), .int (nI sg), .int rp, .int lo, .int ea, .ref y4, .ref y5, .int (nI go), .int (nI ak), .int (nI gn), .int (nI gf)])), (y1, .inl (cI, 9, .inl K)), (y2, .inl (cI, 9, .inl (nA Lm))), (y3, .inl (cI, 24, .inl (nA t))), (y4, .inl (cI, 25, .inl (nA f))), (y5, .inl (cI, 24, .inl C))] [.ref y0] (fun (v9 : Option Value) (u9 : (Nat → Nat) × (Nat → Int32) × Nat × Nat × Nat × Nat) => v9 = some (.int (nI (gfN q sg (gM t n K Lm k (-1)))))) (fun (u9 : (Nat → Nat) × (Nat → Int32) × Nat × Nat × Nat × Nat) => [(y0, .inr (5, [.int (nI th), .int (nI k), .ref y1, .ref y2, .int (nI n), .ref y3, .int (nI q), .int (nI sg), .int rp, .int lo, .int ea, .ref y4, .ref y5, .int (nI u9.2.2.1), .int (nI u9.2.2.2.1), .int (nI u9.2.2.2.2.1), .int (nI u9.2.2.2.2.2)])), (y1, .inl (cI, 9, .inl K)), (y2, .inl (cI, 9, .inl (nA Lm))), (y3, .inl (cI, 24, .inl (nA t))), (y4, .inl (cI, 25, .inl (nA u9.1))), (y5, .inl (cI, 24, .inl u9.2.1))]) := by
  refine mu_of (C := RX5) (cc := cX5_garbled) (maxL := 1) (ret := (some .int)) rfl (by decide) rfl (Nat.le_of_ble_eq_true rfl) ?_
  intro pg ev sv mi ag bl mt cd ls Q A hA hQ hx hb hr hlocks hml hts hown hK hE hD H locs hP hS hl
  have hD : zDD A [y0, y1, y2, y3, y4, y5] := hD
  have hl : lv_has ls 1 [(0, .ref y0)] := hl
  have f_19 := hts (.fieldLink RX5 19 "TelegraphDeskModel" "quality" "I") (by decide +kernel)
  have f_75 := hts (.fieldLink RX5 75 "TelegraphDeskModel" "garbledFirst" "I") (by decide +kernel)
  have hi_5 : ∀ w ∈ wsX50, w ∈ wsX5_garbled := by decide +kernel
  refine lv_aload_n hx hb dX5_garbled_0 rfl (lv_at hl 0 rfl) ?_
  refine lv_aload_n hx hb dX5_garbled_1 rfl (lv_at hl 0 rfl) ?_
  refine z_muV (As := []) (rest := [.ref y0]) ⟨hx, hb, hml, hown, hts⟩ (c_X5_all l D cI y0 y1 y2 y3 y4 y5 th k n q sg rp lo ea go ak gn gf K Lm t f C (by first | assumption | omega) (by first | assumption | omega) (by first | assumption | omega) (by first | assumption | omega)) (cwV 0 hts gX5_garbled_X5_all rfl rfl rfl hd_X5_all ⟨Nat.le_of_ble_eq_true rfl, Nat.le_of_ble_eq_true rfl⟩) ⟨hK, hE⟩ hP hD rfl hS [0, 1, 2, 3, 4, 5] (by decide) rfl (fun _ => rfl) (va_recv hK hP (ci := 5) (q0 := 0) rfl rfl) rfl hl.1 rfl (Nat.le_of_ble_eq_true rfl) dX5_garbled_2 (Nat.zero_le _) (Nat.zero_le _) (fun v9 u9 H locs hp hP hS => ?_)
  obtain ⟨f2_2, C2_2⟩ := u9
  obtain ⟨rfl, hom_2⟩ := hp
  try dsimp only at hom_2
  have hP : va_P D vwCl [(y0, .inr (5, [.int (nI th), .int (nI k), .ref y1, .ref y2, .int (nI n), .ref y3, .int (nI q), .int (nI sg), .int rp, .int lo, .int ea, .ref y4, .ref y5, .int (nI go), .int (nI ak), .int (nI gn), .int (nI gf)])), (y1, .inl (cI, 9, .inl K)), (y2, .inl (cI, 9, .inl (nA Lm))), (y3, .inl (cI, 24, .inl (nA t))), (y4, .inl (cI, 25, .inl (nA f2_2))), (y5, .inl (cI, 24, .inl C2_2))] H := hP
  refine W.eq (g2 := F0 mi 5 ls [.int (nI (gM t n K Lm k (-1))), .ref y0]) rfl ?_
  refine lv_aload_n hx hb dX5_garbled_5 rfl (lv_at hl 0 rfl) ?_
  refine va_get (v := .int (nI q)) hx hb hts hi_5 hown hK hP 0 rfl rfl 6 (by decide) f_19 (fun _ h => h) rfl dX5_garbled_6 ?_
  refine z_muV (As := [.int (nI (gM t n K Lm k (-1))), .int (nI q)]) (rest := []) ⟨hx, hb, hml, hown, hts⟩ (c_X5_go l D cI y0 y1 y2 y3 y4 y5 th k n q sg rp lo ea go ak gn gf (gM t n K Lm k (-1)) q (by have := gM_leU (t := t) (bu := -1) hLk hKk (n := n); omega) (by first | assumption | omega) (by first | assumption | omega)) (cwV 2 hts gX5_garbled_X5_go rfl rfl rfl hd_X5_go ⟨Nat.le_of_ble_eq_true rfl, Nat.le_of_ble_eq_true rfl⟩) ⟨hK, hE⟩ hP hD rfl hS [0] (by decide) rfl (fun _ => rfl) (va_recv hK hP (ci := 5) (q0 := 0) rfl rfl) rfl hl.1 rfl (Nat.le_of_ble_eq_true rfl) dX5_garbled_9 (Nat.zero_le _) (Nat.zero_le _) (fun v9 u9 H locs hp hP hS => ?_)
  obtain ⟨go2_9, ak2_9, gn2_9, gf2_9⟩ := u9
  obtain ⟨rfl, hgo_9, d_ak2_9, d_gn2_9, d_gf2_9⟩ := hp
  try dsimp only at hgo_9 d_ak2_9 d_gn2_9 d_gf2_9
  subst d_ak2_9
  subst d_gn2_9
  subst d_gf2_9
  have hP : va_P D vwCl [(y0, .inr (5, [.int (nI th), .int (nI k), .ref y1, .ref y2, .int (nI n), .ref y3, .int (nI q), .int (nI sg), .int rp, .int lo, .int ea, .ref y4, .ref y5, .int (nI go2_9), .int (nI (akN q sg (gM t n K Lm k (-1)))), .int (nI (gnN q sg (gM t n K Lm k (-1)))), .int (nI (gfN q sg (gM t n K Lm k (-1))))])), (y1, .inl (cI, 9, .inl K)), (y2, .inl (cI, 9, .inl (nA Lm))), (y3, .inl (cI, 24, .inl (nA t))), (y4, .inl (cI, 25, .inl (nA f2_2))), (y5, .inl (cI, 24, .inl C2_2))] H := hP
  refine W.eq (g2 := F0 mi 12 ls []) rfl ?_
  refine lv_aload_n hx hb dX5_garbled_12 rfl (lv_at hl 0 rfl) ?_
  refine va_get (v := .int (nI (gfN q sg (gM t n K Lm k (-1))))) hx hb hts hi_5 hown hK hP 0 rfl rfl 16 (by decide) f_75 (fun _ h => h) rfl dX5_garbled_13 ?_
  exact mu_iret hA hQ hx hb hr hlocks (f2_2, C2_2, go2_9, (akN q sg (gM t n K Lm k (-1))), (gnN q sg (gM t n K Lm k (-1))), (gfN q sg (gM t n K Lm k (-1)))) hP hS rfl dX5_garbled_16
set_option maxHeartbeats 4000000 in
set_option maxRecDepth 100000 in
theorem c_X5_wouldBeGarbled (l : Launch) (D : va_G) (cI : ClassId) (y0 : Nat) (y1 : Nat) (y2 : Nat) (y3 : Nat) (y4 : Nat) (y5 : Nat) (th : Nat) (k : Nat) (n : Nat) (q : Nat) (sg : Nat) (rp : Int32) (lo : Int32) (ea : Int32) (go : Nat) (ak : Nat) (gn : Nat) (gf : Nat) (K : Nat → Int32) (Lm : Nat → Nat) (t : Nat → Nat) (f : Nat → Nat) (C : Nat → Int32) (hn : n ≤ 24) (hk : k ≤ 8) (hLk : ∀ c, c < k → 2 ≤ Lm c ∧ Lm c ≤ 4) (hKk : ∀ c, c < k → ¬ K c = -1) (hq : q ≤ 9) (hsg : sg ≤ 60000) : MU l yX5_wouldBeGarbled wsX5_wouldBeGarbled rm_X5_wouldBeGarbled D cI [(y0, .inr (5, [.int (nI th), .int (nI k), .ref y1, .ref y2, .int (nI n), .ref y3, .int (nI q), .int (nI sg), .int rp, .int lo, .int ea, .ref y4, .ref y5, .int (nI go), .int (nI ak), .int (nI gn), .int (nI gf)])), (y1, .inl (cI, 9, .inl K)), (y2, .inl (cI, 9, .inl (nA Lm))), (y3, .inl (cI, 24, .inl (nA t))), (y4, .inl (cI, 25, .inl (nA f))), (y5, .inl (cI, 24, .inl C))] [.ref y0] (fun (v9 : Option Value) (u9 : (Nat → Nat) × (Nat → Int32) × Nat × Nat × Nat × Nat) => v9 = some (.int (nI (gfN q sg (gM t n K Lm k (-1)))))) (fun (u9 : (Nat → Nat) × (Nat → Int32) × Nat × Nat × Nat × Nat) => [(y0, .inr (5, [.int (nI 0), .int (nI k), .ref y1, .ref y2, .int (nI n), .ref y3, .int (nI q), .int (nI sg), .int rp, .int lo, .int ea, .ref y4, .ref y5, .int (nI u9.2.2.1), .int (nI u9.2.2.2.1), .int (nI u9.2.2.2.2.1), .int (nI u9.2.2.2.2.2)])), (y1, .inl (cI, 9, .inl K)), (y2, .inl (cI, 9, .inl (nA Lm))), (y3, .inl (cI, 24, .inl (nA t))), (y4, .inl (cI, 25, .inl (nA u9.1))), (y5, .inl (cI, 24, .inl u9.2.1))]) := by
  refine mu_of (C := RX5) (cc := cX5_wouldBeGarbled) (maxL := 1) (ret := (some .int)) rfl (by decide) rfl (Nat.le_of_ble_eq_true rfl) ?_
  intro pg ev sv mi ag bl mt cd ls Q A hA hQ hx hb hr hlocks hml hts hown hK hE hD H locs hP hS hl
  have hD : zDD A [y0, y1, y2, y3, y4, y5] := hD
  have hl : lv_has ls 1 [(0, .ref y0)] := hl
  refine lv_aload_n hx hb dX5_wouldBeGarbled_0 rfl (lv_at hl 0 rfl) ?_
  refine lv_aload_n hx hb dX5_wouldBeGarbled_1 rfl (lv_at hl 0 rfl) ?_
  refine z_muV (As := []) (rest := [.ref y0]) ⟨hx, hb, hml, hown, hts⟩ (c_X5_garbled l D cI y0 y1 y2 y3 y4 y5 th k n q sg rp lo ea go ak gn gf K Lm t f C (by first | assumption | omega) (by first | assumption | omega) (by first | assumption | omega) (by first | assumption | omega) (by first | assumption | omega) (by first | assumption | omega)) (cwV 0 hts gX5_wouldBeGarbled_X5_garbled rfl rfl rfl hd_X5_garbled ⟨Nat.le_of_ble_eq_true rfl, Nat.le_of_ble_eq_true rfl⟩) ⟨hK, hE⟩ hP hD rfl hS [0, 1, 2, 3, 4, 5] (by decide) rfl (fun _ => rfl) (va_recv hK hP (ci := 5) (q0 := 0) rfl rfl) rfl hl.1 rfl (Nat.le_of_ble_eq_true rfl) dX5_wouldBeGarbled_2 (Nat.zero_le _) (Nat.zero_le _) (fun v9 u9 H locs hp hP hS => ?_)
  obtain ⟨f2_2, C2_2, go2_2, ak2_2, gn2_2, gf2_2⟩ := u9
  obtain rfl := hp
  have hP : va_P D vwCl [(y0, .inr (5, [.int (nI th), .int (nI k), .ref y1, .ref y2, .int (nI n), .ref y3, .int (nI q), .int (nI sg), .int rp, .int lo, .int ea, .ref y4, .ref y5, .int (nI go2_2), .int (nI ak2_2), .int (nI gn2_2), .int (nI gf2_2)])), (y1, .inl (cI, 9, .inl K)), (y2, .inl (cI, 9, .inl (nA Lm))), (y3, .inl (cI, 24, .inl (nA t))), (y4, .inl (cI, 25, .inl (nA f2_2))), (y5, .inl (cI, 24, .inl C2_2))] H := hP
  refine W.eq (g2 := F0 mi 5 ls [.int (nI (gfN q sg (gM t n K Lm k (-1)))), .ref y0]) rfl ?_
  refine z_muV (As := [.int (nI (gfN q sg (gM t n K Lm k (-1))))]) (rest := []) ⟨hx, hb, hml, hown, hts⟩ (c_X5_told l D cI y0 y1 y2 y3 y4 y5 th k n q sg rp lo ea go2_2 ak2_2 gn2_2 gf2_2 (nI (gfN q sg (gM t n K Lm k (-1))))) (cwV 1 hts gX5_wouldBeGarbled_X5_told rfl rfl rfl hd_X5_told ⟨Nat.le_of_ble_eq_true rfl, Nat.le_of_ble_eq_true rfl⟩) ⟨hK, hE⟩ hP hD rfl hS [0] (by decide) rfl (fun _ => rfl) (va_recv hK hP (ci := 5) (q0 := 0) rfl rfl) rfl hl.1 rfl (Nat.le_of_ble_eq_true rfl) dX5_wouldBeGarbled_5 (Nat.zero_le _) (Nat.zero_le _) (fun v9 u9 H locs hp hP hS => ?_)
  obtain rfl := hp
  have hP : va_P D vwCl [(y0, .inr (5, [.int (nI 0), .int (nI k), .ref y1, .ref y2, .int (nI n), .ref y3, .int (nI q), .int (nI sg), .int rp, .int lo, .int ea, .ref y4, .ref y5, .int (nI go2_2), .int (nI ak2_2), .int (nI gn2_2), .int (nI gf2_2)])), (y1, .inl (cI, 9, .inl K)), (y2, .inl (cI, 9, .inl (nA Lm))), (y3, .inl (cI, 24, .inl (nA t))), (y4, .inl (cI, 25, .inl (nA f2_2))), (y5, .inl (cI, 24, .inl C2_2))] H := hP
  refine W.eq (g2 := F0 mi 8 ls [.int (nI (gfN q sg (gM t n K Lm k (-1))))]) rfl ?_
  exact mu_iret hA hQ hx hb hr hlocks (f2_2, C2_2, go2_2, ak2_2, gn2_2, gf2_2) hP hS rfl dX5_wouldBeGarbled_8
set_option maxHeartbeats 4000000 in
set_option maxRecDepth 100000 in
theorem c_X5_again (l : Launch) (D : va_G) (cI : ClassId) (y0 : Nat) (y1 : Nat) (y2 : Nat) (y3 : Nat) (y4 : Nat) (y5 : Nat) (th : Nat) (k : Nat) (n : Nat) (q : Nat) (sg : Nat) (rp : Int32) (lo : Int32) (ea : Int32) (go : Nat) (ak : Nat) (gn : Nat) (gf : Nat) (K : Nat → Int32) (Lm : Nat → Nat) (t : Nat → Nat) (f : Nat → Nat) (C : Nat → Int32) (hn : n ≤ 24) (hk : k ≤ 8) (hLk : ∀ c, c < k → 2 ≤ Lm c ∧ Lm c ≤ 4) (hKk : ∀ c, c < k → ¬ K c = -1) (hq : q ≤ 9) (hsg : sg ≤ 60000) : MU l yX5_again wsX5_again rm_X5_again D cI [(y0, .inr (5, [.int (nI th), .int (nI k), .ref y1, .ref y2, .int (nI n), .ref y3, .int (nI q), .int (nI sg), .int rp, .int lo, .int ea, .ref y4, .ref y5, .int (nI go), .int (nI ak), .int (nI gn), .int (nI gf)])), (y1, .inl (cI, 9, .inl K)), (y2, .inl (cI, 9, .inl (nA Lm))), (y3, .inl (cI, 24, .inl (nA t))), (y4, .inl (cI, 25, .inl (nA f))), (y5, .inl (cI, 24, .inl C))] [.ref y0] (fun (v9 : Option Value) (u9 : (Nat → Nat) × (Nat → Int32) × Nat × Nat × Nat × Nat) => v9 = some (.int (nI (akN q sg (gM t n K Lm k (-1)))))) (fun (u9 : (Nat → Nat) × (Nat → Int32) × Nat × Nat × Nat × Nat) => [(y0, .inr (5, [.int (nI th), .int (nI k), .ref y1, .ref y2, .int (nI n), .ref y3, .int (nI q), .int (nI sg), .int rp, .int lo, .int ea, .ref y4, .ref y5, .int (nI u9.2.2.1), .int (nI u9.2.2.2.1), .int (nI u9.2.2.2.2.1), .int (nI u9.2.2.2.2.2)])), (y1, .inl (cI, 9, .inl K)), (y2, .inl (cI, 9, .inl (nA Lm))), (y3, .inl (cI, 24, .inl (nA t))), (y4, .inl (cI, 25, .inl (nA u9.1))), (y5, .inl (cI, 24, .inl u9.2.1))]) := by
  refine mu_of (C := RX5) (cc := cX5_again) (maxL := 1) (ret := (some .int)) rfl (by decide) rfl (Nat.le_of_ble_eq_true rfl) ?_
  intro pg ev sv mi ag bl mt cd ls Q A hA hQ hx hb hr hlocks hml hts hown hK hE hD H locs hP hS hl
  have hD : zDD A [y0, y1, y2, y3, y4, y5] := hD
  have hl : lv_has ls 1 [(0, .ref y0)] := hl
  have f_19 := hts (.fieldLink RX5 19 "TelegraphDeskModel" "quality" "I") (by decide +kernel)
  have f_69 := hts (.fieldLink RX5 69 "TelegraphDeskModel" "asked" "I") (by decide +kernel)
  have hi_5 : ∀ w ∈ wsX50, w ∈ wsX5_again := by decide +kernel
  refine lv_aload_n hx hb dX5_again_0 rfl (lv_at hl 0 rfl) ?_
  refine lv_aload_n hx hb dX5_again_1 rfl (lv_at hl 0 rfl) ?_
  refine z_muV (As := []) (rest := [.ref y0]) ⟨hx, hb, hml, hown, hts⟩ (c_X5_all l D cI y0 y1 y2 y3 y4 y5 th k n q sg rp lo ea go ak gn gf K Lm t f C (by first | assumption | omega) (by first | assumption | omega) (by first | assumption | omega) (by first | assumption | omega)) (cwV 0 hts gX5_again_X5_all rfl rfl rfl hd_X5_all ⟨Nat.le_of_ble_eq_true rfl, Nat.le_of_ble_eq_true rfl⟩) ⟨hK, hE⟩ hP hD rfl hS [0, 1, 2, 3, 4, 5] (by decide) rfl (fun _ => rfl) (va_recv hK hP (ci := 5) (q0 := 0) rfl rfl) rfl hl.1 rfl (Nat.le_of_ble_eq_true rfl) dX5_again_2 (Nat.zero_le _) (Nat.zero_le _) (fun v9 u9 H locs hp hP hS => ?_)
  obtain ⟨f2_2, C2_2⟩ := u9
  obtain ⟨rfl, hom_2⟩ := hp
  try dsimp only at hom_2
  have hP : va_P D vwCl [(y0, .inr (5, [.int (nI th), .int (nI k), .ref y1, .ref y2, .int (nI n), .ref y3, .int (nI q), .int (nI sg), .int rp, .int lo, .int ea, .ref y4, .ref y5, .int (nI go), .int (nI ak), .int (nI gn), .int (nI gf)])), (y1, .inl (cI, 9, .inl K)), (y2, .inl (cI, 9, .inl (nA Lm))), (y3, .inl (cI, 24, .inl (nA t))), (y4, .inl (cI, 25, .inl (nA f2_2))), (y5, .inl (cI, 24, .inl C2_2))] H := hP
  refine W.eq (g2 := F0 mi 5 ls [.int (nI (gM t n K Lm k (-1))), .ref y0]) rfl ?_
  refine lv_aload_n hx hb dX5_again_5 rfl (lv_at hl 0 rfl) ?_
  refine va_get (v := .int (nI q)) hx hb hts hi_5 hown hK hP 0 rfl rfl 6 (by decide) f_19 (fun _ h => h) rfl dX5_again_6 ?_
  refine z_muV (As := [.int (nI (gM t n K Lm k (-1))), .int (nI q)]) (rest := []) ⟨hx, hb, hml, hown, hts⟩ (c_X5_go l D cI y0 y1 y2 y3 y4 y5 th k n q sg rp lo ea go ak gn gf (gM t n K Lm k (-1)) q (by have := gM_leU (t := t) (bu := -1) hLk hKk (n := n); omega) (by first | assumption | omega) (by first | assumption | omega)) (cwV 2 hts gX5_again_X5_go rfl rfl rfl hd_X5_go ⟨Nat.le_of_ble_eq_true rfl, Nat.le_of_ble_eq_true rfl⟩) ⟨hK, hE⟩ hP hD rfl hS [0] (by decide) rfl (fun _ => rfl) (va_recv hK hP (ci := 5) (q0 := 0) rfl rfl) rfl hl.1 rfl (Nat.le_of_ble_eq_true rfl) dX5_again_9 (Nat.zero_le _) (Nat.zero_le _) (fun v9 u9 H locs hp hP hS => ?_)
  obtain ⟨go2_9, ak2_9, gn2_9, gf2_9⟩ := u9
  obtain ⟨rfl, hgo_9, d_ak2_9, d_gn2_9, d_gf2_9⟩ := hp
  try dsimp only at hgo_9 d_ak2_9 d_gn2_9 d_gf2_9
  subst d_ak2_9
  subst d_gn2_9
  subst d_gf2_9
  have hP : va_P D vwCl [(y0, .inr (5, [.int (nI th), .int (nI k), .ref y1, .ref y2, .int (nI n), .ref y3, .int (nI q), .int (nI sg), .int rp, .int lo, .int ea, .ref y4, .ref y5, .int (nI go2_9), .int (nI (akN q sg (gM t n K Lm k (-1)))), .int (nI (gnN q sg (gM t n K Lm k (-1)))), .int (nI (gfN q sg (gM t n K Lm k (-1))))])), (y1, .inl (cI, 9, .inl K)), (y2, .inl (cI, 9, .inl (nA Lm))), (y3, .inl (cI, 24, .inl (nA t))), (y4, .inl (cI, 25, .inl (nA f2_2))), (y5, .inl (cI, 24, .inl C2_2))] H := hP
  refine W.eq (g2 := F0 mi 12 ls []) rfl ?_
  refine lv_aload_n hx hb dX5_again_12 rfl (lv_at hl 0 rfl) ?_
  refine va_get (v := .int (nI (akN q sg (gM t n K Lm k (-1))))) hx hb hts hi_5 hown hK hP 0 rfl rfl 14 (by decide) f_69 (fun _ h => h) rfl dX5_again_13 ?_
  exact mu_iret hA hQ hx hb hr hlocks (f2_2, C2_2, go2_9, (akN q sg (gM t n K Lm k (-1))), (gnN q sg (gM t n K Lm k (-1))), (gfN q sg (gM t n K Lm k (-1)))) hP hS rfl dX5_again_16
set_option maxHeartbeats 4000000 in
set_option maxRecDepth 100000 in
theorem c_X5_repeatsIfSent (l : Launch) (D : va_G) (cI : ClassId) (y0 : Nat) (y1 : Nat) (y2 : Nat) (y3 : Nat) (y4 : Nat) (y5 : Nat) (th : Nat) (k : Nat) (n : Nat) (q : Nat) (sg : Nat) (rp : Int32) (lo : Int32) (ea : Int32) (go : Nat) (ak : Nat) (gn : Nat) (gf : Nat) (K : Nat → Int32) (Lm : Nat → Nat) (t : Nat → Nat) (f : Nat → Nat) (C : Nat → Int32) (hn : n ≤ 24) (hk : k ≤ 8) (hLk : ∀ c, c < k → 2 ≤ Lm c ∧ Lm c ≤ 4) (hKk : ∀ c, c < k → ¬ K c = -1) (hq : q ≤ 9) (hsg : sg ≤ 60000) : MU l yX5_repeatsIfSent wsX5_repeatsIfSent rm_X5_repeatsIfSent D cI [(y0, .inr (5, [.int (nI th), .int (nI k), .ref y1, .ref y2, .int (nI n), .ref y3, .int (nI q), .int (nI sg), .int rp, .int lo, .int ea, .ref y4, .ref y5, .int (nI go), .int (nI ak), .int (nI gn), .int (nI gf)])), (y1, .inl (cI, 9, .inl K)), (y2, .inl (cI, 9, .inl (nA Lm))), (y3, .inl (cI, 24, .inl (nA t))), (y4, .inl (cI, 25, .inl (nA f))), (y5, .inl (cI, 24, .inl C))] [.ref y0] (fun (v9 : Option Value) (u9 : (Nat → Nat) × (Nat → Int32) × Nat × Nat × Nat × Nat) => v9 = some (.int (nI (akN q sg (gM t n K Lm k (-1)))))) (fun (u9 : (Nat → Nat) × (Nat → Int32) × Nat × Nat × Nat × Nat) => [(y0, .inr (5, [.int (nI 0), .int (nI k), .ref y1, .ref y2, .int (nI n), .ref y3, .int (nI q), .int (nI sg), .int rp, .int lo, .int ea, .ref y4, .ref y5, .int (nI u9.2.2.1), .int (nI u9.2.2.2.1), .int (nI u9.2.2.2.2.1), .int (nI u9.2.2.2.2.2)])), (y1, .inl (cI, 9, .inl K)), (y2, .inl (cI, 9, .inl (nA Lm))), (y3, .inl (cI, 24, .inl (nA t))), (y4, .inl (cI, 25, .inl (nA u9.1))), (y5, .inl (cI, 24, .inl u9.2.1))]) := by
  refine mu_of (C := RX5) (cc := cX5_repeatsIfSent) (maxL := 1) (ret := (some .int)) rfl (by decide) rfl (Nat.le_of_ble_eq_true rfl) ?_
  intro pg ev sv mi ag bl mt cd ls Q A hA hQ hx hb hr hlocks hml hts hown hK hE hD H locs hP hS hl
  have hD : zDD A [y0, y1, y2, y3, y4, y5] := hD
  have hl : lv_has ls 1 [(0, .ref y0)] := hl
  refine lv_aload_n hx hb dX5_repeatsIfSent_0 rfl (lv_at hl 0 rfl) ?_
  refine lv_aload_n hx hb dX5_repeatsIfSent_1 rfl (lv_at hl 0 rfl) ?_
  refine z_muV (As := []) (rest := [.ref y0]) ⟨hx, hb, hml, hown, hts⟩ (c_X5_again l D cI y0 y1 y2 y3 y4 y5 th k n q sg rp lo ea go ak gn gf K Lm t f C (by first | assumption | omega) (by first | assumption | omega) (by first | assumption | omega) (by first | assumption | omega) (by first | assumption | omega) (by first | assumption | omega)) (cwV 0 hts gX5_repeatsIfSent_X5_again rfl rfl rfl hd_X5_again ⟨Nat.le_of_ble_eq_true rfl, Nat.le_of_ble_eq_true rfl⟩) ⟨hK, hE⟩ hP hD rfl hS [0, 1, 2, 3, 4, 5] (by decide) rfl (fun _ => rfl) (va_recv hK hP (ci := 5) (q0 := 0) rfl rfl) rfl hl.1 rfl (Nat.le_of_ble_eq_true rfl) dX5_repeatsIfSent_2 (Nat.zero_le _) (Nat.zero_le _) (fun v9 u9 H locs hp hP hS => ?_)
  obtain ⟨f2_2, C2_2, go2_2, ak2_2, gn2_2, gf2_2⟩ := u9
  obtain rfl := hp
  have hP : va_P D vwCl [(y0, .inr (5, [.int (nI th), .int (nI k), .ref y1, .ref y2, .int (nI n), .ref y3, .int (nI q), .int (nI sg), .int rp, .int lo, .int ea, .ref y4, .ref y5, .int (nI go2_2), .int (nI ak2_2), .int (nI gn2_2), .int (nI gf2_2)])), (y1, .inl (cI, 9, .inl K)), (y2, .inl (cI, 9, .inl (nA Lm))), (y3, .inl (cI, 24, .inl (nA t))), (y4, .inl (cI, 25, .inl (nA f2_2))), (y5, .inl (cI, 24, .inl C2_2))] H := hP
  refine W.eq (g2 := F0 mi 5 ls [.int (nI (akN q sg (gM t n K Lm k (-1)))), .ref y0]) rfl ?_
  refine z_muV (As := [.int (nI (akN q sg (gM t n K Lm k (-1))))]) (rest := []) ⟨hx, hb, hml, hown, hts⟩ (c_X5_told l D cI y0 y1 y2 y3 y4 y5 th k n q sg rp lo ea go2_2 ak2_2 gn2_2 gf2_2 (nI (akN q sg (gM t n K Lm k (-1))))) (cwV 1 hts gX5_repeatsIfSent_X5_told rfl rfl rfl hd_X5_told ⟨Nat.le_of_ble_eq_true rfl, Nat.le_of_ble_eq_true rfl⟩) ⟨hK, hE⟩ hP hD rfl hS [0] (by decide) rfl (fun _ => rfl) (va_recv hK hP (ci := 5) (q0 := 0) rfl rfl) rfl hl.1 rfl (Nat.le_of_ble_eq_true rfl) dX5_repeatsIfSent_5 (Nat.zero_le _) (Nat.zero_le _) (fun v9 u9 H locs hp hP hS => ?_)
  obtain rfl := hp
  have hP : va_P D vwCl [(y0, .inr (5, [.int (nI 0), .int (nI k), .ref y1, .ref y2, .int (nI n), .ref y3, .int (nI q), .int (nI sg), .int rp, .int lo, .int ea, .ref y4, .ref y5, .int (nI go2_2), .int (nI ak2_2), .int (nI gn2_2), .int (nI gf2_2)])), (y1, .inl (cI, 9, .inl K)), (y2, .inl (cI, 9, .inl (nA Lm))), (y3, .inl (cI, 24, .inl (nA t))), (y4, .inl (cI, 25, .inl (nA f2_2))), (y5, .inl (cI, 24, .inl C2_2))] H := hP
  refine W.eq (g2 := F0 mi 8 ls [.int (nI (akN q sg (gM t n K Lm k (-1))))]) rfl ?_
  exact mu_iret hA hQ hx hb hr hlocks (f2_2, C2_2, go2_2, ak2_2, gn2_2, gf2_2) hP hS rfl dX5_repeatsIfSent_8
set_option maxHeartbeats 4000000 in
set_option maxRecDepth 100000 in
theorem c_X5_wanted (l : Launch) (D : va_G) (cI : ClassId) (y0 : Nat) (y1 : Nat) (y2 : Nat) (y3 : Nat) (y4 : Nat) (y5 : Nat) (th : Nat) (k : Nat) (n : Nat) (q : Nat) (sg : Nat) (rp : Int32) (lo : Int32) (ea : Int32) (go : Nat) (ak : Nat) (gn : Nat) (gf : Nat) (K : Nat → Int32) (Lm : Nat → Nat) (t : Nat → Nat) (f : Nat → Nat) (C : Nat → Int32) (hn : n ≤ 24) (hk : k ≤ 8) (hLk : ∀ c, c < k → 2 ≤ Lm c ∧ Lm c ≤ 4) (hKk : ∀ c, c < k → ¬ K c = -1) (hsg : sg ≤ 60000) : MU l yX5_wanted wsX5_wanted rm_X5_wanted D cI [(y0, .inr (5, [.int (nI th), .int (nI k), .ref y1, .ref y2, .int (nI n), .ref y3, .int (nI q), .int (nI sg), .int rp, .int lo, .int ea, .ref y4, .ref y5, .int (nI go), .int (nI ak), .int (nI gn), .int (nI gf)])), (y1, .inl (cI, 9, .inl K)), (y2, .inl (cI, 9, .inl (nA Lm))), (y3, .inl (cI, 24, .inl (nA t))), (y4, .inl (cI, 25, .inl (nA f))), (y5, .inl (cI, 24, .inl C))] [.ref y0] (fun (v9 : Option Value) (u9 : (Nat → Nat) × (Nat → Int32) × Nat × Nat × Nat × Nat) => v9 = some (.int (qwF sg (gM t n K Lm k (-1)) 9 1))) (fun (u9 : (Nat → Nat) × (Nat → Int32) × Nat × Nat × Nat × Nat) => [(y0, .inr (5, [.int (nI th), .int (nI k), .ref y1, .ref y2, .int (nI n), .ref y3, .int (nI q), .int (nI sg), .int rp, .int lo, .int ea, .ref y4, .ref y5, .int (nI u9.2.2.1), .int (nI u9.2.2.2.1), .int (nI u9.2.2.2.2.1), .int (nI u9.2.2.2.2.2)])), (y1, .inl (cI, 9, .inl K)), (y2, .inl (cI, 9, .inl (nA Lm))), (y3, .inl (cI, 24, .inl (nA t))), (y4, .inl (cI, 25, .inl (nA u9.1))), (y5, .inl (cI, 24, .inl u9.2.1))]) := by
  refine mu_of (C := RX5) (cc := cX5_wanted) (maxL := 3) (ret := (some .int)) rfl (by decide) rfl (Nat.le_of_ble_eq_true rfl) ?_
  intro pg ev sv mi ag bl mt cd ls Q A hA hQ hx hb hr hlocks hml hts hown hK hE hD H locs hP hS hl
  have hD : zDD A [y0, y1, y2, y3, y4, y5] := hD
  have hl : lv_has ls 3 [(0, .ref y0)] := hl
  have f_72 := hts (.fieldLink RX5 72 "TelegraphDeskModel" "gone" "I") (by decide +kernel)
  have hi_5 : ∀ w ∈ wsX50, w ∈ wsX5_wanted := by decide +kernel
  refine lv_aload_n hx hb dX5_wanted_0 rfl (lv_at hl 0 rfl) ?_
  refine z_muV (As := []) (rest := []) ⟨hx, hb, hml, hown, hts⟩ (c_X5_all l D cI y0 y1 y2 y3 y4 y5 th k n q sg rp lo ea go ak gn gf K Lm t f C (by first | assumption | omega) (by first | assumption | omega) (by first | assumption | omega) (by first | assumption | omega)) (cwV 0 hts gX5_wanted_X5_all rfl rfl rfl hd_X5_all ⟨Nat.le_of_ble_eq_true rfl, Nat.le_of_ble_eq_true rfl⟩) ⟨hK, hE⟩ hP hD rfl hS [0, 1, 2, 3, 4, 5] (by decide) rfl (fun _ => rfl) (va_recv hK hP (ci := 5) (q0 := 0) rfl rfl) rfl hl.1 rfl (Nat.le_of_ble_eq_true rfl) dX5_wanted_1 (Nat.zero_le _) (Nat.zero_le _) (fun v9 u9 H locs hp hP hS => ?_)
  obtain ⟨f2_1, C2_1⟩ := u9
  obtain ⟨rfl, hom_1⟩ := hp
  try dsimp only at hom_1
  have hP : va_P D vwCl [(y0, .inr (5, [.int (nI th), .int (nI k), .ref y1, .ref y2, .int (nI n), .ref y3, .int (nI q), .int (nI sg), .int rp, .int lo, .int ea, .ref y4, .ref y5, .int (nI go), .int (nI ak), .int (nI gn), .int (nI gf)])), (y1, .inl (cI, 9, .inl K)), (y2, .inl (cI, 9, .inl (nA Lm))), (y3, .inl (cI, 24, .inl (nA t))), (y4, .inl (cI, 25, .inl (nA f2_1))), (y5, .inl (cI, 24, .inl C2_1))] H := hP
  refine W.eq (g2 := F0 mi 4 ls [.int (nI (gM t n K Lm k (-1)))]) rfl ?_
  refine lv_istore_n (lv' := [(1, .int (nI (gM t n K Lm k (-1)))), (0, .ref y0)]) hx hb dX5_wanted_4 rfl hl (by decide) rfl (fun ls hl => ?_)
  refine lv_iconst (v := nI 1) hx hb dX5_wanted_5 ci_1 ?_
  refine lv_istore_n (lv' := [(2, .int (nI 1)), (1, .int (nI (gM t n K Lm k (-1)))), (0, .ref y0)]) hx hb dX5_wanted_6 rfl hl (by decide) rfl (fun ls hl => ?_)
  have lp_7 : ∀ (Nf : Nat) (w : Nat) (o1 : Nat) (a1 : Nat) (n1 : Nat) (f1 : Nat) (hw : 1 ≤ w ∧ w ≤ 10) (heq : qwF sg (gM t n K Lm k (-1)) 9 1 = qwF sg (gM t n K Lm k (-1)) (10 - w) w) (hN : 11 - w < Nf) (H : Heap) (locs : List Loc) (ls : Array Slot), va_P D vwCl [(y0, .inr (5, [.int (nI th), .int (nI k), .ref y1, .ref y2, .int (nI n), .ref y3, .int (nI q), .int (nI sg), .int rp, .int lo, .int ea, .ref y4, .ref y5, .int (nI o1), .int (nI a1), .int (nI n1), .int (nI f1)])), (y1, .inl (cI, 9, .inl K)), (y2, .inl (cI, 9, .inl (nA Lm))), (y3, .inl (cI, 24, .inl (nA t))), (y4, .inl (cI, 25, .inl (nA f2_1))), (y5, .inl (cI, 24, .inl C2_1))] H → va_S A sv.heap H locs → lv_has ls 3 [(2, .int (nI w)), (1, .int (nI (gM t n K Lm k (-1)))), (0, .ref y0)] → W pg l ev rm_X5_wanted sv mi ag bl mt cd H locs 0 0 Q (F0 mi 7 ls []) := by
    intro Nf
    induction Nf with
    | zero =>
      intro w o1 a1 n1 f1 hw heq hN
      exact absurd hN (Nat.not_lt_zero _)
    | succ Nf ih_7 =>
      intro w o1 a1 n1 f1 hw heq hN H locs ls hP hS hl
      refine lv_iload_n hx hb dX5_wanted_7 rfl (lv_at hl 0 rfl) ?_
      refine z_bipush (n := 9) hx hb rfl (by decide) dX5_wanted_8 ?_
      refine z_icmp_gt (tgt := 34) hx hb dX5_wanted_10 (by decide) (by omega) (by omega) (fun c_10 => ?_) (fun c_10 => ?_)
      · refine lv_iconst (v := -1) hx hb dX5_wanted_34 ci_m1 ?_
        exact mu_iret hA hQ hx hb hr hlocks (f2_1, C2_1, o1, a1, n1, f1) hP hS (by rw [heq, show w = 10 by omega]; rfl) dX5_wanted_35
      · refine lv_aload_n hx hb dX5_wanted_13 rfl (lv_at hl 2 rfl) ?_
        refine lv_iload_n hx hb dX5_wanted_14 rfl (lv_at hl 1 rfl) ?_
        refine lv_iload_n hx hb dX5_wanted_15 rfl (lv_at hl 0 rfl) ?_
        refine z_muV (As := [.int (nI (gM t n K Lm k (-1))), .int (nI w)]) (rest := []) ⟨hx, hb, hml, hown, hts⟩ (c_X5_go l D cI y0 y1 y2 y3 y4 y5 th k n q sg rp lo ea o1 a1 n1 f1 (gM t n K Lm k (-1)) w (by have := gM_leU (t := t) (bu := -1) hLk hKk (n := n); omega) (by first | assumption | omega) (by first | assumption | omega)) (cwV 2 hts gX5_wanted_X5_go rfl rfl rfl hd_X5_go ⟨Nat.le_of_ble_eq_true rfl, Nat.le_of_ble_eq_true rfl⟩) ⟨hK, hE⟩ hP hD rfl hS [0] (by decide) rfl (fun _ => rfl) (va_recv hK hP (ci := 5) (q0 := 0) rfl rfl) rfl hl.1 rfl (Nat.le_of_ble_eq_true rfl) dX5_wanted_16 (Nat.zero_le _) (Nat.zero_le _) (fun v9 u9 H locs hp hP hS => ?_)
        obtain ⟨go2_16, ak2_16, gn2_16, gf2_16⟩ := u9
        obtain ⟨rfl, hgo_16, d_ak2_16, d_gn2_16, d_gf2_16⟩ := hp
        try dsimp only at hgo_16 d_ak2_16 d_gn2_16 d_gf2_16
        subst d_ak2_16
        subst d_gn2_16
        subst d_gf2_16
        have hP : va_P D vwCl [(y0, .inr (5, [.int (nI th), .int (nI k), .ref y1, .ref y2, .int (nI n), .ref y3, .int (nI q), .int (nI sg), .int rp, .int lo, .int ea, .ref y4, .ref y5, .int (nI go2_16), .int (nI (akN w sg (gM t n K Lm k (-1)))), .int (nI (gnN w sg (gM t n K Lm k (-1)))), .int (nI (gfN w sg (gM t n K Lm k (-1))))])), (y1, .inl (cI, 9, .inl K)), (y2, .inl (cI, 9, .inl (nA Lm))), (y3, .inl (cI, 24, .inl (nA t))), (y4, .inl (cI, 25, .inl (nA f2_1))), (y5, .inl (cI, 24, .inl C2_1))] H := hP
        refine W.eq (g2 := F0 mi 19 ls []) rfl ?_
        refine lv_aload_n hx hb dX5_wanted_19 rfl (lv_at hl 2 rfl) ?_
        refine va_get (v := .int (nI (gnN w sg (gM t n K Lm k (-1))))) hx hb hts hi_5 hown hK hP 0 rfl rfl 15 (by decide) f_72 (fun _ h => h) rfl dX5_wanted_20 ?_
        have hgl := gnN_le w sg (gM t n K Lm k (-1))
        have hg24 := gM_leU (t := t) (n := n) (bu := -1) hLk hKk
        refine z_if_ne (tgt := 28) hx hb dX5_wanted_23 (by decide) (by omega) (fun c_23 => ?_) (fun c_23 => ?_)
        · refine lv_iinc (v := nI (w + 1)) (lv' := [(2, .int (nI (w + 1))), (1, .int (nI (gM t n K Lm k (-1)))), (0, .ref y0)]) hx hb dX5_wanted_28 hl (k := 0) rfl (z_inc1 _) (by decide) rfl (fun ls hl => ?_)
          refine lv_goto (tgt := 7) hx hb dX5_wanted_31 (by decide) ?_
          exact ih_7 (w + 1) go2_16 (akN w sg (gM t n K Lm k (-1))) (gnN w sg (gM t n K Lm k (-1))) (gfN w sg (gM t n K Lm k (-1))) ⟨by omega, by omega⟩ (by rw [heq]; exact qw_f c_23 (by omega)) (by omega) H locs ls hP hS (lv_sub hl [0, 1, 2] rfl)
        · refine lv_iload_n hx hb dX5_wanted_26 rfl (lv_at hl 0 rfl) ?_
          exact mu_iret hA hQ hx hb hr hlocks (f2_1, C2_1, go2_16, (akN w sg (gM t n K Lm k (-1))), (gnN w sg (gM t n K Lm k (-1))), (gfN w sg (gM t n K Lm k (-1)))) hP hS (by rw [heq, qw_t c_23 (by omega)]) dX5_wanted_27
  exact lp_7 ((11 - 1) + 1) 1 go ak gn gf (⟨Nat.le_refl _, by omega⟩) rfl (Nat.lt_succ_self _) H locs ls hP hS hl
set_option maxHeartbeats 4000000 in
set_option maxRecDepth 100000 in
theorem c_X5_qualityWanted (l : Launch) (D : va_G) (cI : ClassId) (y0 : Nat) (y1 : Nat) (y2 : Nat) (y3 : Nat) (y4 : Nat) (y5 : Nat) (th : Nat) (k : Nat) (n : Nat) (q : Nat) (sg : Nat) (rp : Int32) (lo : Int32) (ea : Int32) (go : Nat) (ak : Nat) (gn : Nat) (gf : Nat) (K : Nat → Int32) (Lm : Nat → Nat) (t : Nat → Nat) (f : Nat → Nat) (C : Nat → Int32) (hn : n ≤ 24) (hk : k ≤ 8) (hLk : ∀ c, c < k → 2 ≤ Lm c ∧ Lm c ≤ 4) (hKk : ∀ c, c < k → ¬ K c = -1) (hsg : sg ≤ 60000) : MU l yX5_qualityWanted wsX5_qualityWanted rm_X5_qualityWanted D cI [(y0, .inr (5, [.int (nI th), .int (nI k), .ref y1, .ref y2, .int (nI n), .ref y3, .int (nI q), .int (nI sg), .int rp, .int lo, .int ea, .ref y4, .ref y5, .int (nI go), .int (nI ak), .int (nI gn), .int (nI gf)])), (y1, .inl (cI, 9, .inl K)), (y2, .inl (cI, 9, .inl (nA Lm))), (y3, .inl (cI, 24, .inl (nA t))), (y4, .inl (cI, 25, .inl (nA f))), (y5, .inl (cI, 24, .inl C))] [.ref y0] (fun (v9 : Option Value) (u9 : (Nat → Nat) × (Nat → Int32) × Nat × Nat × Nat × Nat) => v9 = some (.int (qwF sg (gM t n K Lm k (-1)) 9 1))) (fun (u9 : (Nat → Nat) × (Nat → Int32) × Nat × Nat × Nat × Nat) => [(y0, .inr (5, [.int (nI 0), .int (nI k), .ref y1, .ref y2, .int (nI n), .ref y3, .int (nI q), .int (nI sg), .int rp, .int lo, .int ea, .ref y4, .ref y5, .int (nI u9.2.2.1), .int (nI u9.2.2.2.1), .int (nI u9.2.2.2.2.1), .int (nI u9.2.2.2.2.2)])), (y1, .inl (cI, 9, .inl K)), (y2, .inl (cI, 9, .inl (nA Lm))), (y3, .inl (cI, 24, .inl (nA t))), (y4, .inl (cI, 25, .inl (nA u9.1))), (y5, .inl (cI, 24, .inl u9.2.1))]) := by
  refine mu_of (C := RX5) (cc := cX5_qualityWanted) (maxL := 1) (ret := (some .int)) rfl (by decide) rfl (Nat.le_of_ble_eq_true rfl) ?_
  intro pg ev sv mi ag bl mt cd ls Q A hA hQ hx hb hr hlocks hml hts hown hK hE hD H locs hP hS hl
  have hD : zDD A [y0, y1, y2, y3, y4, y5] := hD
  have hl : lv_has ls 1 [(0, .ref y0)] := hl
  refine lv_aload_n hx hb dX5_qualityWanted_0 rfl (lv_at hl 0 rfl) ?_
  refine lv_aload_n hx hb dX5_qualityWanted_1 rfl (lv_at hl 0 rfl) ?_
  refine z_muV (As := []) (rest := [.ref y0]) ⟨hx, hb, hml, hown, hts⟩ (c_X5_wanted l D cI y0 y1 y2 y3 y4 y5 th k n q sg rp lo ea go ak gn gf K Lm t f C (by first | assumption | omega) (by first | assumption | omega) (by first | assumption | omega) (by first | assumption | omega) (by first | assumption | omega)) (cwV 0 hts gX5_qualityWanted_X5_wanted rfl rfl rfl hd_X5_wanted ⟨Nat.le_of_ble_eq_true rfl, Nat.le_of_ble_eq_true rfl⟩) ⟨hK, hE⟩ hP hD rfl hS [0, 1, 2, 3, 4, 5] (by decide) rfl (fun _ => rfl) (va_recv hK hP (ci := 5) (q0 := 0) rfl rfl) rfl hl.1 rfl (Nat.le_of_ble_eq_true rfl) dX5_qualityWanted_2 (Nat.zero_le _) (Nat.zero_le _) (fun v9 u9 H locs hp hP hS => ?_)
  obtain ⟨f2_2, C2_2, go2_2, ak2_2, gn2_2, gf2_2⟩ := u9
  obtain rfl := hp
  have hP : va_P D vwCl [(y0, .inr (5, [.int (nI th), .int (nI k), .ref y1, .ref y2, .int (nI n), .ref y3, .int (nI q), .int (nI sg), .int rp, .int lo, .int ea, .ref y4, .ref y5, .int (nI go2_2), .int (nI ak2_2), .int (nI gn2_2), .int (nI gf2_2)])), (y1, .inl (cI, 9, .inl K)), (y2, .inl (cI, 9, .inl (nA Lm))), (y3, .inl (cI, 24, .inl (nA t))), (y4, .inl (cI, 25, .inl (nA f2_2))), (y5, .inl (cI, 24, .inl C2_2))] H := hP
  refine W.eq (g2 := F0 mi 5 ls [.int (qwF sg (gM t n K Lm k (-1)) 9 1), .ref y0]) rfl ?_
  refine z_muV (As := [.int (qwF sg (gM t n K Lm k (-1)) 9 1)]) (rest := []) ⟨hx, hb, hml, hown, hts⟩ (c_X5_told l D cI y0 y1 y2 y3 y4 y5 th k n q sg rp lo ea go2_2 ak2_2 gn2_2 gf2_2 (qwF sg (gM t n K Lm k (-1)) 9 1)) (cwV 1 hts gX5_qualityWanted_X5_told rfl rfl rfl hd_X5_told ⟨Nat.le_of_ble_eq_true rfl, Nat.le_of_ble_eq_true rfl⟩) ⟨hK, hE⟩ hP hD rfl hS [0] (by decide) rfl (fun _ => rfl) (va_recv hK hP (ci := 5) (q0 := 0) rfl rfl) rfl hl.1 rfl (Nat.le_of_ble_eq_true rfl) dX5_qualityWanted_5 (Nat.zero_le _) (Nat.zero_le _) (fun v9 u9 H locs hp hP hS => ?_)
  obtain rfl := hp
  have hP : va_P D vwCl [(y0, .inr (5, [.int (nI 0), .int (nI k), .ref y1, .ref y2, .int (nI n), .ref y3, .int (nI q), .int (nI sg), .int rp, .int lo, .int ea, .ref y4, .ref y5, .int (nI go2_2), .int (nI ak2_2), .int (nI gn2_2), .int (nI gf2_2)])), (y1, .inl (cI, 9, .inl K)), (y2, .inl (cI, 9, .inl (nA Lm))), (y3, .inl (cI, 24, .inl (nA t))), (y4, .inl (cI, 25, .inl (nA f2_2))), (y5, .inl (cI, 24, .inl C2_2))] H := hP
  refine W.eq (g2 := F0 mi 8 ls [.int (qwF sg (gM t n K Lm k (-1)) 9 1)]) rfl ?_
  exact mu_iret hA hQ hx hb hr hlocks (f2_2, C2_2, go2_2, ak2_2, gn2_2, gf2_2) hP hS rfl dX5_qualityWanted_8
set_option maxHeartbeats 4000000 in
set_option maxRecDepth 100000 in
theorem c_X5_useless (l : Launch) (D : va_G) (cI : ClassId) (y0 : Nat) (y1 : Nat) (y2 : Nat) (y3 : Nat) (y4 : Nat) (y5 : Nat) (th : Nat) (k : Nat) (n : Nat) (q : Nat) (sg : Nat) (rp : Int32) (lo : Int32) (ea : Int32) (go : Nat) (ak : Nat) (gn : Nat) (gf : Nat) (K : Nat → Int32) (Lm : Nat → Nat) (t : Nat → Nat) (f : Nat → Nat) (C : Nat → Int32) (hn : n ≤ 24) (hk : k ≤ 8) (hLk : ∀ c, c < k → 2 ≤ Lm c ∧ Lm c ≤ 4) (hKk : ∀ c, c < k → ¬ K c = -1) : MU l yX5_useless wsX5_useless rm_X5_useless D cI [(y0, .inr (5, [.int (nI th), .int (nI k), .ref y1, .ref y2, .int (nI n), .ref y3, .int (nI q), .int (nI sg), .int rp, .int lo, .int ea, .ref y4, .ref y5, .int (nI go), .int (nI ak), .int (nI gn), .int (nI gf)])), (y1, .inl (cI, 9, .inl K)), (y2, .inl (cI, 9, .inl (nA Lm))), (y3, .inl (cI, 24, .inl (nA t))), (y4, .inl (cI, 25, .inl (nA f))), (y5, .inl (cI, 24, .inl C))] [.ref y0] (fun (v9 : Option Value) (u9 : Int32 × (Nat → Nat) × (Nat → Int32)) => v9 = some (.int u9.1) ∧ (ulM t n K Lm k u9.1)) (fun (u9 : Int32 × (Nat → Nat) × (Nat → Int32)) => [(y0, .inr (5, [.int (nI th), .int (nI k), .ref y1, .ref y2, .int (nI n), .ref y3, .int (nI q), .int (nI sg), .int rp, .int lo, .int ea, .ref y4, .ref y5, .int (nI go), .int (nI ak), .int (nI gn), .int (nI gf)])), (y1, .inl (cI, 9, .inl K)), (y2, .inl (cI, 9, .inl (nA Lm))), (y3, .inl (cI, 24, .inl (nA t))), (y4, .inl (cI, 25, .inl (nA u9.2.1))), (y5, .inl (cI, 24, .inl u9.2.2))]) := by
  refine mu_of (C := RX5) (cc := cX5_useless) (maxL := 3) (ret := (some .int)) rfl (by decide) rfl (Nat.le_of_ble_eq_true rfl) ?_
  intro pg ev sv mi ag bl mt cd ls Q A hA hQ hx hb hr hlocks hml hts hown hK hE hD H locs hP hS hl
  have hD : zDD A [y0, y1, y2, y3, y4, y5] := hD
  have hl : lv_has ls 3 [(0, .ref y0)] := hl
  have f_36 := hts (.fieldLink RX5 36 "TelegraphDeskModel" "codes" "I") (by decide +kernel)
  have f_23 := hts (.fieldLink RX5 23 "TelegraphDeskModel" "fewest" "[I") (by decide +kernel)
  have hi_5 : ∀ w ∈ wsX50, w ∈ wsX5_useless := by decide +kernel
  refine lv_aload_n hx hb dX5_useless_0 rfl (lv_at hl 0 rfl) ?_
  refine z_muV (As := []) (rest := []) ⟨hx, hb, hml, hown, hts⟩ (c_X5_all l D cI y0 y1 y2 y3 y4 y5 th k n q sg rp lo ea go ak gn gf K Lm t f C (by first | assumption | omega) (by first | assumption | omega) (by first | assumption | omega) (by first | assumption | omega)) (cwV 0 hts gX5_useless_X5_all rfl rfl rfl hd_X5_all ⟨Nat.le_of_ble_eq_true rfl, Nat.le_of_ble_eq_true rfl⟩) ⟨hK, hE⟩ hP hD rfl hS [0, 1, 2, 3, 4, 5] (by decide) rfl (fun _ => rfl) (va_recv hK hP (ci := 5) (q0 := 0) rfl rfl) rfl hl.1 rfl (Nat.le_of_ble_eq_true rfl) dX5_useless_1 (Nat.zero_le _) (Nat.zero_le _) (fun v9 u9 H locs hp hP hS => ?_)
  obtain ⟨f2_1, C2_1⟩ := u9
  obtain ⟨rfl, hom_1⟩ := hp
  try dsimp only at hom_1
  have hP : va_P D vwCl [(y0, .inr (5, [.int (nI th), .int (nI k), .ref y1, .ref y2, .int (nI n), .ref y3, .int (nI q), .int (nI sg), .int rp, .int lo, .int ea, .ref y4, .ref y5, .int (nI go), .int (nI ak), .int (nI gn), .int (nI gf)])), (y1, .inl (cI, 9, .inl K)), (y2, .inl (cI, 9, .inl (nA Lm))), (y3, .inl (cI, 24, .inl (nA t))), (y4, .inl (cI, 25, .inl (nA f2_1))), (y5, .inl (cI, 24, .inl C2_1))] H := hP
  refine W.eq (g2 := F0 mi 4 ls [.int (nI (gM t n K Lm k (-1)))]) rfl ?_
  refine lv_istore_n (lv' := [(1, .int (nI (gM t n K Lm k (-1)))), (0, .ref y0)]) hx hb dX5_useless_4 rfl hl (by decide) rfl (fun ls hl => ?_)
  have hg24 := gM_leU (t := t) (n := n) (bu := -1) hLk hKk
  refine lv_iconst (v := nI 0) hx hb dX5_useless_5 ci_0 ?_
  refine lv_istore_n (lv' := [(2, .int (nI 0)), (1, .int (nI (gM t n K Lm k (-1)))), (0, .ref y0)]) hx hb dX5_useless_6 rfl hl (by decide) rfl (fun ls hl => ?_)
  have lp_7 : ∀ (Nf : Nat) (i : Nat) (f1 : Nat → Nat) (C1 : Nat → Int32) (hi : i ≤ k) (hall : ∀ j, j < i → ¬ gM t n K Lm k (nI j) = gM t n K Lm k (-1)) (hN : k - i < Nf) (H : Heap) (locs : List Loc) (ls : Array Slot), va_P D vwCl [(y0, .inr (5, [.int (nI th), .int (nI k), .ref y1, .ref y2, .int (nI n), .ref y3, .int (nI q), .int (nI sg), .int rp, .int lo, .int ea, .ref y4, .ref y5, .int (nI go), .int (nI ak), .int (nI gn), .int (nI gf)])), (y1, .inl (cI, 9, .inl K)), (y2, .inl (cI, 9, .inl (nA Lm))), (y3, .inl (cI, 24, .inl (nA t))), (y4, .inl (cI, 25, .inl (nA f1))), (y5, .inl (cI, 24, .inl C1))] H → va_S A sv.heap H locs → lv_has ls 3 [(2, .int (nI i)), (1, .int (nI (gM t n K Lm k (-1)))), (0, .ref y0)] → W pg l ev rm_X5_useless sv mi ag bl mt cd H locs 0 0 Q (F0 mi 7 ls []) := by
    intro Nf
    induction Nf with
    | zero =>
      intro i f1 C1 hi hall hN
      exact absurd hN (Nat.not_lt_zero _)
    | succ Nf ih_7 =>
      intro i f1 C1 hi hall hN H locs ls hP hS hl
      refine lv_iload_n hx hb dX5_useless_7 rfl (lv_at hl 0 rfl) ?_
      refine lv_aload_n hx hb dX5_useless_8 rfl (lv_at hl 2 rfl) ?_
      refine va_get (v := .int (nI k)) hx hb hts hi_5 hown hK hP 0 rfl rfl 1 (by decide) f_36 (fun _ h => h) rfl dX5_useless_9 ?_
      refine z_icmp_ge (tgt := 42) hx hb dX5_useless_12 (by decide) (by omega) (by omega) (fun c_12 => ?_) (fun c_12 => ?_)
      · refine lv_iconst (v := -1) hx hb dX5_useless_42 ci_m1 ?_
        exact mu_iret hA hQ hx hb hr hlocks (-1, f1, C1) hP hS ⟨rfl, Or.inr ⟨rfl, fun j hj => hall j (by omega)⟩⟩ dX5_useless_43
      · refine lv_aload_n hx hb dX5_useless_15 rfl (lv_at hl 2 rfl) ?_
        refine lv_aload_n hx hb dX5_useless_16 rfl (lv_at hl 2 rfl) ?_
        refine va_get (v := .int (nI k)) hx hb hts hi_5 hown hK hP 0 rfl rfl 1 (by decide) f_36 (fun _ h => h) rfl dX5_useless_17 ?_
        refine lv_iload_n hx hb dX5_useless_20 rfl (lv_at hl 0 rfl) ?_
        refine z_muV (As := [.int (nI k), .int (nI i)]) (rest := []) ⟨hx, hb, hml, hown, hts⟩ (c_X5_part l D cI y0 y1 y2 y3 y4 y5 th k n q sg rp lo ea go ak gn gf K Lm t f1 C1 k (nI i) (by first | assumption | omega) (by omega) (by first | assumption | omega) (by first | assumption | omega)) (cwV 2 hts gX5_useless_X5_part rfl rfl rfl hd_X5_part ⟨Nat.le_of_ble_eq_true rfl, Nat.le_of_ble_eq_true rfl⟩) ⟨hK, hE⟩ hP hD rfl hS [0, 1, 2, 3, 4, 5] (by decide) rfl (fun _ => rfl) (va_recv hK hP (ci := 5) (q0 := 0) rfl rfl) rfl hl.1 rfl (Nat.le_of_ble_eq_true rfl) dX5_useless_21 (Nat.zero_le _) (Nat.zero_le _) (fun v9 u9 H locs hp hP hS => ?_)
        obtain ⟨f2_21, C2_21⟩ := u9
        obtain ⟨rfl, hom_21⟩ := hp
        try dsimp only at hom_21
        have hP : va_P D vwCl [(y0, .inr (5, [.int (nI th), .int (nI k), .ref y1, .ref y2, .int (nI n), .ref y3, .int (nI q), .int (nI sg), .int rp, .int lo, .int ea, .ref y4, .ref y5, .int (nI go), .int (nI ak), .int (nI gn), .int (nI gf)])), (y1, .inl (cI, 9, .inl K)), (y2, .inl (cI, 9, .inl (nA Lm))), (y3, .inl (cI, 24, .inl (nA t))), (y4, .inl (cI, 25, .inl (nA f2_21))), (y5, .inl (cI, 24, .inl C2_21))] H := hP
        refine W.eq (g2 := F0 mi 24 ls []) rfl ?_
        have hg9 := gM_eq (mbm (t := t) (n := n) hLk hKk) hom_21
        have hg8 := gM_leU (t := t) (n := n) (bu := nI i) hLk hKk
        refine lv_aload_n hx hb dX5_useless_24 rfl (lv_at hl 2 rfl) ?_
        refine va_get (v := .ref y4) hx hb hts hi_5 hown hK hP 0 rfl rfl 11 (by decide) f_23 (fun _ h => h) rfl dX5_useless_25 ?_
        refine lv_iconst (v := nI 0) hx hb dX5_useless_28 ci_0 ?_
        refine z_ialdN hx hb hK hP 4 0 rfl rfl (by omega) (by decide) dX5_useless_29 ?_
        refine lv_iload_n hx hb dX5_useless_30 rfl (lv_at hl 1 rfl) ?_
        refine z_icmp_ne (tgt := 36) hx hb dX5_useless_31 (by decide) (by omega) (by omega) (fun c_31 => ?_) (fun c_31 => ?_)
        · refine lv_iinc (v := nI (i + 1)) (lv' := [(2, .int (nI (i + 1))), (1, .int (nI (gM t n K Lm k (-1)))), (0, .ref y0)]) hx hb dX5_useless_36 hl (k := 0) rfl (z_inc1 _) (by decide) rfl (fun ls hl => ?_)
          refine lv_goto (tgt := 7) hx hb dX5_useless_39 (by decide) ?_
          exact ih_7 (i + 1) f2_21 C2_21 (by omega) (lt_s hall (by omega)) (by omega) H locs ls hP hS (lv_sub hl [0, 1, 2] rfl)
        · refine lv_iload_n hx hb dX5_useless_34 rfl (lv_at hl 0 rfl) ?_
          exact mu_iret hA hQ hx hb hr hlocks (nI i, f2_21, C2_21) hP hS ⟨rfl, Or.inl ⟨i, c_12, rfl, by omega, hall⟩⟩ dX5_useless_35
  exact lp_7 ((k - 0) + 1) 0 f2_1 C2_1 (Nat.zero_le _) (fun _ h => absurd h (Nat.not_lt_zero _)) (Nat.lt_succ_self _) H locs ls hP hS hl
set_option maxHeartbeats 4000000 in
set_option maxRecDepth 100000 in
theorem c_X5_uselessCode (l : Launch) (D : va_G) (cI : ClassId) (y0 : Nat) (y1 : Nat) (y2 : Nat) (y3 : Nat) (y4 : Nat) (y5 : Nat) (th : Nat) (k : Nat) (n : Nat) (q : Nat) (sg : Nat) (rp : Int32) (lo : Int32) (ea : Int32) (go : Nat) (ak : Nat) (gn : Nat) (gf : Nat) (K : Nat → Int32) (Lm : Nat → Nat) (t : Nat → Nat) (f : Nat → Nat) (C : Nat → Int32) (hn : n ≤ 24) (hk : k ≤ 8) (hLk : ∀ c, c < k → 2 ≤ Lm c ∧ Lm c ≤ 4) (hKk : ∀ c, c < k → ¬ K c = -1) : MU l yX5_uselessCode wsX5_uselessCode rm_X5_uselessCode D cI [(y0, .inr (5, [.int (nI th), .int (nI k), .ref y1, .ref y2, .int (nI n), .ref y3, .int (nI q), .int (nI sg), .int rp, .int lo, .int ea, .ref y4, .ref y5, .int (nI go), .int (nI ak), .int (nI gn), .int (nI gf)])), (y1, .inl (cI, 9, .inl K)), (y2, .inl (cI, 9, .inl (nA Lm))), (y3, .inl (cI, 24, .inl (nA t))), (y4, .inl (cI, 25, .inl (nA f))), (y5, .inl (cI, 24, .inl C))] [.ref y0] (fun (v9 : Option Value) (u9 : Int32 × (Nat → Nat) × (Nat → Int32)) => v9 = some (.int u9.1) ∧ (ulM t n K Lm k u9.1)) (fun (u9 : Int32 × (Nat → Nat) × (Nat → Int32)) => [(y0, .inr (5, [.int (nI 0), .int (nI k), .ref y1, .ref y2, .int (nI n), .ref y3, .int (nI q), .int (nI sg), .int rp, .int lo, .int ea, .ref y4, .ref y5, .int (nI go), .int (nI ak), .int (nI gn), .int (nI gf)])), (y1, .inl (cI, 9, .inl K)), (y2, .inl (cI, 9, .inl (nA Lm))), (y3, .inl (cI, 24, .inl (nA t))), (y4, .inl (cI, 25, .inl (nA u9.2.1))), (y5, .inl (cI, 24, .inl u9.2.2))]) := by
  refine mu_of (C := RX5) (cc := cX5_uselessCode) (maxL := 1) (ret := (some .int)) rfl (by decide) rfl (Nat.le_of_ble_eq_true rfl) ?_
  intro pg ev sv mi ag bl mt cd ls Q A hA hQ hx hb hr hlocks hml hts hown hK hE hD H locs hP hS hl
  have hD : zDD A [y0, y1, y2, y3, y4, y5] := hD
  have hl : lv_has ls 1 [(0, .ref y0)] := hl
  refine lv_aload_n hx hb dX5_uselessCode_0 rfl (lv_at hl 0 rfl) ?_
  refine lv_aload_n hx hb dX5_uselessCode_1 rfl (lv_at hl 0 rfl) ?_
  refine z_muV (As := []) (rest := [.ref y0]) ⟨hx, hb, hml, hown, hts⟩ (c_X5_useless l D cI y0 y1 y2 y3 y4 y5 th k n q sg rp lo ea go ak gn gf K Lm t f C (by first | assumption | omega) (by first | assumption | omega) (by first | assumption | omega) (by first | assumption | omega)) (cwV 0 hts gX5_uselessCode_X5_useless rfl rfl rfl hd_X5_useless ⟨Nat.le_of_ble_eq_true rfl, Nat.le_of_ble_eq_true rfl⟩) ⟨hK, hE⟩ hP hD rfl hS [0, 1, 2, 3, 4, 5] (by decide) rfl (fun _ => rfl) (va_recv hK hP (ci := 5) (q0 := 0) rfl rfl) rfl hl.1 rfl (Nat.le_of_ble_eq_true rfl) dX5_uselessCode_2 (Nat.zero_le _) (Nat.zero_le _) (fun v9 u9 H locs hp hP hS => ?_)
  obtain ⟨r_2, f2_2, C2_2⟩ := u9
  obtain ⟨rfl, hul_2⟩ := hp
  try dsimp only at hul_2
  have hP : va_P D vwCl [(y0, .inr (5, [.int (nI th), .int (nI k), .ref y1, .ref y2, .int (nI n), .ref y3, .int (nI q), .int (nI sg), .int rp, .int lo, .int ea, .ref y4, .ref y5, .int (nI go), .int (nI ak), .int (nI gn), .int (nI gf)])), (y1, .inl (cI, 9, .inl K)), (y2, .inl (cI, 9, .inl (nA Lm))), (y3, .inl (cI, 24, .inl (nA t))), (y4, .inl (cI, 25, .inl (nA f2_2))), (y5, .inl (cI, 24, .inl C2_2))] H := hP
  refine W.eq (g2 := F0 mi 5 ls [.int r_2, .ref y0]) rfl ?_
  refine z_muV (As := [.int r_2]) (rest := []) ⟨hx, hb, hml, hown, hts⟩ (c_X5_told l D cI y0 y1 y2 y3 y4 y5 th k n q sg rp lo ea go ak gn gf r_2) (cwV 1 hts gX5_uselessCode_X5_told rfl rfl rfl hd_X5_told ⟨Nat.le_of_ble_eq_true rfl, Nat.le_of_ble_eq_true rfl⟩) ⟨hK, hE⟩ hP hD rfl hS [0] (by decide) rfl (fun _ => rfl) (va_recv hK hP (ci := 5) (q0 := 0) rfl rfl) rfl hl.1 rfl (Nat.le_of_ble_eq_true rfl) dX5_uselessCode_5 (Nat.zero_le _) (Nat.zero_le _) (fun v9 u9 H locs hp hP hS => ?_)
  obtain rfl := hp
  have hP : va_P D vwCl [(y0, .inr (5, [.int (nI 0), .int (nI k), .ref y1, .ref y2, .int (nI n), .ref y3, .int (nI q), .int (nI sg), .int rp, .int lo, .int ea, .ref y4, .ref y5, .int (nI go), .int (nI ak), .int (nI gn), .int (nI gf)])), (y1, .inl (cI, 9, .inl K)), (y2, .inl (cI, 9, .inl (nA Lm))), (y3, .inl (cI, 24, .inl (nA t))), (y4, .inl (cI, 25, .inl (nA f2_2))), (y5, .inl (cI, 24, .inl C2_2))] H := hP
  refine W.eq (g2 := F0 mi 8 ls [.int r_2]) rfl ?_
  exact mu_iret hA hQ hx hb hr hlocks (r_2, f2_2, C2_2) hP hS ⟨rfl, hul_2⟩ dX5_uselessCode_8
