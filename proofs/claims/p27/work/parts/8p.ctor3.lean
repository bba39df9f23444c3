section CTC
set_option maxRecDepth 100000 in
set_option maxHeartbeats 4000000 in
theorem k_States6 {l : Launch} {cA : Nat → ClassId} {b0 z N q : Nat} {f : Nat → va_E} (hq : q < N) (he : f q = .inr (6, [.null])) : CB l 6 20 181 yX5_init cX5_init 3 none cA b0 z [.ref (b0 + q), .int 6] (wl b0 N f) (w4 b0 N f q (.inr (6, [.ref (b0 + (N + 0))])) [.inr (0, [.int 6, .ref (b0 + (N + 4)), .int 6]), .inr (5, [.ref (b0 + (N + 2)), .ref (b0 + (N + 3)), .int 0, .int 0]), .inl (cA 0, 12, .inl (fun _ => 0)), .inl (cA 0, 12, .inl (fun _ => (-2))), .inl (cA 3, 10, .inr (.inr (.inr (.inr (va_up (va_up (va_up (va_up (va_up (va_up (fun _ => none) 0 (some (b0 + (N + 1)))) 1 (some (b0 + (N + 5)))) 2 (some (b0 + (N + 8)))) 3 (some (b0 + (N + 11)))) 4 (some (b0 + (N + 14)))) 5 (some (b0 + (N + 17)))))))), .inr (5, [.ref (b0 + (N + 6)), .ref (b0 + (N + 7)), .int 0, .int 0]), .inl (cA 0, 12, .inl (fun _ => 0)), .inl (cA 0, 12, .inl (fun _ => (-2))), .inr (5, [.ref (b0 + (N + 9)), .ref (b0 + (N + 10)), .int 0, .int 0]), .inl (cA 0, 12, .inl (fun _ => 0)), .inl (cA 0, 12, .inl (fun _ => (-2))), .inr (5, [.ref (b0 + (N + 12)), .ref (b0 + (N + 13)), .int 0, .int 0]), .inl (cA 0, 12, .inl (fun _ => 0)), .inl (cA 0, 12, .inl (fun _ => (-2))), .inr (5, [.ref (b0 + (N + 15)), .ref (b0 + (N + 16)), .int 0, .int 0]), .inl (cA 0, 12, .inl (fun _ => 0)), .inl (cA 0, 12, .inl (fun _ => (-2))), .inr (5, [.ref (b0 + (N + 18)), .ref (b0 + (N + 19)), .int 0, .int 0]), .inl (cA 0, 12, .inl (fun _ => 0)), .inl (cA 0, 12, .inl (fun _ => (-2)))]) none := by
  refine CB.ofBV (L := [some (.ref (b0 + q)), some (.int 6), none]) RX5 (by decide +kernel) rfl (Nat.le_of_ble_eq_true rfl) rfl (fun X hX G I E => ?_)
  subst hX
  rw [w4_start he]
  refine B_aload0 G dX5_init_0 ?_
  refine B_obj G ob_X5_1 dX5_init_1 (by omega) (Nat.le_of_ble_eq_true rfl) ?_
  refine B_aload0 G dX5_init_4 ?_
  refine R4_new (m := 0) (L1 := [.inr (0, [.int 0, .null, .int 0])]) G hq nb_X5_7 dX5_init_5 rfl rfl (by omega) (by omega) ?_
  refine B_dup G dX5_init_8 rfl ?_
  refine R4_cI (m := 1) (j := 0) (d1 := 3) (L1 := [.inr (0, [.int 0, .ref z, .int 0])]) G hq mi_X5_9 dX5_init_9 rfl (by decide) (k_list (by omega) (W4_j hq rfl)) rfl (by omega) (by omega) (by omega) (Nat.le_of_ble_eq_true rfl) ?_
  refine R4_put (fs1 := [.ref (b0 + (N + 0))]) G hq pb_X5_10 (fun _ => I rfl) dX5_init_12 rfl rfl (Nat.le_of_ble_eq_true rfl) rfl ?_
  refine B_iconst G dX5_init_15 (v := 0) (by decide) ?_
  refine B_istore2 G dX5_init_16 rfl ?_
  refine B_iload2 G dX5_init_17 ?_
  refine B_iload1 G dX5_init_18 ?_
  refine B_icmpge G dX5_init_19 (tgt := 43) (by decide) (fun h => absurd h (by decide)) (fun _ => ?_)
  refine B_aload0 G dX5_init_22 ?_
  refine R4_get G hq fl_X5_10 dX5_init_23 rfl ?_
  refine R4_new (m := 1) (L1 := [.inr (0, [.int 0, .ref z, .int 0]), .inr (5, [.null, .null, .int 0, .int 0])]) G hq nb_X5_16 dX5_init_26 rfl rfl (by omega) (by omega) ?_
  refine B_dup G dX5_init_29 rfl ?_
  refine R4_cI (m := 2) (j := 1) (d1 := 2) (L1 := [.inr (0, [.int 0, .ref z, .int 0]), .inr (5, [.ref (b0 + (N + 2)), .ref (b0 + (N + 3)), .int 0, .int 0]), .inl (cA 0, 12, .inl (fun _ => 0)), .inl (cA 0, 12, .inl (fun _ => (-2)))]) G hq mi_X5_18 dX5_init_30 rfl (by decide) (k_State (by omega) (W4_j hq rfl)) rfl (by omega) (by omega) (by omega) (Nat.le_of_ble_eq_true rfl) ?_
  refine R4_cadd1 (m := 4) (j := 0) (x := 1) (L1 := [.inr (0, [.int 1, .ref (b0 + (N + 4)), .int 1]), .inr (5, [.ref (b0 + (N + 2)), .ref (b0 + (N + 3)), .int 0, .int 0]), .inl (cA 0, 12, .inl (fun _ => 0)), .inl (cA 0, 12, .inl (fun _ => (-2))), .inl (cA 3, 10, .inr (.inr (.inr (.inr (va_up (fun _ => none) 0 (some (b0 + (N + 1))))))))]) G hq m_X5_19 dX5_init_33 rfl (by decide) (by decide) (by decide) rfl rfl rfl (by omega) (by omega) (by omega) (Nat.le_of_ble_eq_true rfl) ?_
  refine B_pop G dX5_init_36 rfl ?_
  refine B_iinc2 G dX5_init_37 (v := 1) (by decide) rfl ?_
  rw [show (0 : Int32) + 1 = 1 by decide]
  refine B_goto G dX5_init_40 (tgt := 17) (by decide) ?_
  refine B_iload2 G dX5_init_17 ?_
  refine B_iload1 G dX5_init_18 ?_
  refine B_icmpge G dX5_init_19 (tgt := 43) (by decide) (fun h => absurd h (by decide)) (fun _ => ?_)
  refine B_aload0 G dX5_init_22 ?_
  refine R4_get G hq fl_X5_10 dX5_init_23 rfl ?_
  refine R4_new (m := 5) (L1 := [.inr (0, [.int 1, .ref (b0 + (N + 4)), .int 1]), .inr (5, [.ref (b0 + (N + 2)), .ref (b0 + (N + 3)), .int 0, .int 0]), .inl (cA 0, 12, .inl (fun _ => 0)), .inl (cA 0, 12, .inl (fun _ => (-2))), .inl (cA 3, 10, .inr (.inr (.inr (.inr (va_up (fun _ => none) 0 (some (b0 + (N + 1)))))))), .inr (5, [.null, .null, .int 0, .int 0])]) G hq nb_X5_16 dX5_init_26 rfl rfl (by omega) (by omega) ?_
  refine B_dup G dX5_init_29 rfl ?_
  refine R4_cI (m := 6) (j := 5) (d1 := 2) (L1 := [.inr (0, [.int 1, .ref (b0 + (N + 4)), .int 1]), .inr (5, [.ref (b0 + (N + 2)), .ref (b0 + (N + 3)), .int 0, .int 0]), .inl (cA 0, 12, .inl (fun _ => 0)), .inl (cA 0, 12, .inl (fun _ => (-2))), .inl (cA 3, 10, .inr (.inr (.inr (.inr (va_up (fun _ => none) 0 (some (b0 + (N + 1)))))))), .inr (5, [.ref (b0 + (N + 6)), .ref (b0 + (N + 7)), .int 0, .int 0]), .inl (cA 0, 12, .inl (fun _ => 0)), .inl (cA 0, 12, .inl (fun _ => (-2)))]) G hq mi_X5_18 dX5_init_30 rfl (by decide) (k_State (by omega) (W4_j hq rfl)) rfl (by omega) (by omega) (by omega) (Nat.le_of_ble_eq_true rfl) ?_
  refine R4_cadd (m := 8) (j := 0) (x := 5) (e := 4) (L1 := [.inr (0, [.int 2, .ref (b0 + (N + 4)), .int 2]), .inr (5, [.ref (b0 + (N + 2)), .ref (b0 + (N + 3)), .int 0, .int 0]), .inl (cA 0, 12, .inl (fun _ => 0)), .inl (cA 0, 12, .inl (fun _ => (-2))), .inl (cA 3, 10, .inr (.inr (.inr (.inr (va_up (va_up (fun _ => none) 0 (some (b0 + (N + 1)))) 1 (some (b0 + (N + 5)))))))), .inr (5, [.ref (b0 + (N + 6)), .ref (b0 + (N + 7)), .int 0, .int 0]), .inl (cA 0, 12, .inl (fun _ => 0)), .inl (cA 0, 12, .inl (fun _ => (-2)))]) G hq m_X5_19 dX5_init_33 rfl (by decide) (by decide) (by decide) (by decide) (by decide) rfl rfl rfl (m1 := 2) (by decide) (s1 := 2) (by decide) (by decide) (by unfold vp_in; decide) rfl (by omega) (by omega) (by omega) (Nat.le_of_ble_eq_true rfl) ?_
  refine B_pop G dX5_init_36 rfl ?_
  refine B_iinc2 G dX5_init_37 (v := 1) (by decide) rfl ?_
  rw [show (1 : Int32) + 1 = 2 by decide]
  refine B_goto G dX5_init_40 (tgt := 17) (by decide) ?_
  refine B_iload2 G dX5_init_17 ?_
  refine B_iload1 G dX5_init_18 ?_
  refine B_icmpge G dX5_init_19 (tgt := 43) (by decide) (fun h => absurd h (by decide)) (fun _ => ?_)
  refine B_aload0 G dX5_init_22 ?_
  refine R4_get G hq fl_X5_10 dX5_init_23 rfl ?_
  refine R4_new (m := 8) (L1 := [.inr (0, [.int 2, .ref (b0 + (N + 4)), .int 2]), .inr (5, [.ref (b0 + (N + 2)), .ref (b0 + (N + 3)), .int 0, .int 0]), .inl (cA 0, 12, .inl (fun _ => 0)), .inl (cA 0, 12, .inl (fun _ => (-2))), .inl (cA 3, 10, .inr (.inr (.inr (.inr (va_up (va_up (fun _ => none) 0 (some (b0 + (N + 1)))) 1 (some (b0 + (N + 5)))))))), .inr (5, [.ref (b0 + (N + 6)), .ref (b0 + (N + 7)), .int 0, .int 0]), .inl (cA 0, 12, .inl (fun _ => 0)), .inl (cA 0, 12, .inl (fun _ => (-2))), .inr (5, [.null, .null, .int 0, .int 0])]) G hq nb_X5_16 dX5_init_26 rfl rfl (by omega) (by omega) ?_
  refine B_dup G dX5_init_29 rfl ?_
  refine R4_cI (m := 9) (j := 8) (d1 := 2) (L1 := [.inr (0, [.int 2, .ref (b0 + (N + 4)), .int 2]), .inr (5, [.ref (b0 + (N + 2)), .ref (b0 + (N + 3)), .int 0, .int 0]), .inl (cA 0, 12, .inl (fun _ => 0)), .inl (cA 0, 12, .inl (fun _ => (-2))), .inl (cA 3, 10, .inr (.inr (.inr (.inr (va_up (va_up (fun _ => none) 0 (some (b0 + (N + 1)))) 1 (some (b0 + (N + 5)))))))), .inr (5, [.ref (b0 + (N + 6)), .ref (b0 + (N + 7)), .int 0, .int 0]), .inl (cA 0, 12, .inl (fun _ => 0)), .inl (cA 0, 12, .inl (fun _ => (-2))), .inr (5, [.ref (b0 + (N + 9)), .ref (b0 + (N + 10)), .int 0, .int 0]), .inl (cA 0, 12, .inl (fun _ => 0)), .inl (cA 0, 12, .inl (fun _ => (-2)))]) G hq mi_X5_18 dX5_init_30 rfl (by decide) (k_State (by omega) (W4_j hq rfl)) rfl (by omega) (by omega) (by omega) (Nat.le_of_ble_eq_true rfl) ?_
  refine R4_cadd (m := 11) (j := 0) (x := 8) (e := 4) (L1 := [.inr (0, [.int 3, .ref (b0 + (N + 4)), .int 3]), .inr (5, [.ref (b0 + (N + 2)), .ref (b0 + (N + 3)), .int 0, .int 0]), .inl (cA 0, 12, .inl (fun _ => 0)), .inl (cA 0, 12, .inl (fun _ => (-2))), .inl (cA 3, 10, .inr (.inr (.inr (.inr (va_up (va_up (va_up (fun _ => none) 0 (some (b0 + (N + 1)))) 1 (some (b0 + (N + 5)))) 2 (some (b0 + (N + 8)))))))), .inr (5, [.ref (b0 + (N + 6)), .ref (b0 + (N + 7)), .int 0, .int 0]), .inl (cA 0, 12, .inl (fun _ => 0)), .inl (cA 0, 12, .inl (fun _ => (-2))), .inr (5, [.ref (b0 + (N + 9)), .ref (b0 + (N + 10)), .int 0, .int 0]), .inl (cA 0, 12, .inl (fun _ => 0)), .inl (cA 0, 12, .inl (fun _ => (-2)))]) G hq m_X5_19 dX5_init_33 rfl (by decide) (by decide) (by decide) (by decide) (by decide) rfl rfl rfl (m1 := 3) (by decide) (s1 := 3) (by decide) (by decide) (by unfold vp_in; decide) rfl (by omega) (by omega) (by omega) (Nat.le_of_ble_eq_true rfl) ?_
  refine B_pop G dX5_init_36 rfl ?_
  refine B_iinc2 G dX5_init_37 (v := 1) (by decide) rfl ?_
  rw [show (2 : Int32) + 1 = 3 by decide]
  refine B_goto G dX5_init_40 (tgt := 17) (by decide) ?_
  refine B_iload2 G dX5_init_17 ?_
  refine B_iload1 G dX5_init_18 ?_
  refine B_icmpge G dX5_init_19 (tgt := 43) (by decide) (fun h => absurd h (by decide)) (fun _ => ?_)
  refine B_aload0 G dX5_init_22 ?_
  refine R4_get G hq fl_X5_10 dX5_init_23 rfl ?_
  refine R4_new (m := 11) (L1 := [.inr (0, [.int 3, .ref (b0 + (N + 4)), .int 3]), .inr (5, [.ref (b0 + (N + 2)), .ref (b0 + (N + 3)), .int 0, .int 0]), .inl (cA 0, 12, .inl (fun _ => 0)), .inl (cA 0, 12, .inl (fun _ => (-2))), .inl (cA 3, 10, .inr (.inr (.inr (.inr (va_up (va_up (va_up (fun _ => none) 0 (some (b0 + (N + 1)))) 1 (some (b0 + (N + 5)))) 2 (some (b0 + (N + 8)))))))), .inr (5, [.ref (b0 + (N + 6)), .ref (b0 + (N + 7)), .int 0, .int 0]), .inl (cA 0, 12, .inl (fun _ => 0)), .inl (cA 0, 12, .inl (fun _ => (-2))), .inr (5, [.ref (b0 + (N + 9)), .ref (b0 + (N + 10)), .int 0, .int 0]), .inl (cA 0, 12, .inl (fun _ => 0)), .inl (cA 0, 12, .inl (fun _ => (-2))), .inr (5, [.null, .null, .int 0, .int 0])]) G hq nb_X5_16 dX5_init_26 rfl rfl (by omega) (by omega) ?_
  refine B_dup G dX5_init_29 rfl ?_
  refine R4_cI (m := 12) (j := 11) (d1 := 2) (L1 := [.inr (0, [.int 3, .ref (b0 + (N + 4)), .int 3]), .inr (5, [.ref (b0 + (N + 2)), .ref (b0 + (N + 3)), .int 0, .int 0]), .inl (cA 0, 12, .inl (fun _ => 0)), .inl (cA 0, 12, .inl (fun _ => (-2))), .inl (cA 3, 10, .inr (.inr (.inr (.inr (va_up (va_up (va_up (fun _ => none) 0 (some (b0 + (N + 1)))) 1 (some (b0 + (N + 5)))) 2 (some (b0 + (N + 8)))))))), .inr (5, [.ref (b0 + (N + 6)), .ref (b0 + (N + 7)), .int 0, .int 0]), .inl (cA 0, 12, .inl (fun _ => 0)), .inl (cA 0, 12, .inl (fun _ => (-2))), .inr (5, [.ref (b0 + (N + 9)), .ref (b0 + (N + 10)), .int 0, .int 0]), .inl (cA 0, 12, .inl (fun _ => 0)), .inl (cA 0, 12, .inl (fun _ => (-2))), .inr (5, [.ref (b0 + (N + 12)), .ref (b0 + (N + 13)), .int 0, .int 0]), .inl (cA 0, 12, .inl (fun _ => 0)), .inl (cA 0, 12, .inl (fun _ => (-2)))]) G hq mi_X5_18 dX5_init_30 rfl (by decide) (k_State (by omega) (W4_j hq rfl)) rfl (by omega) (by omega) (by omega) (Nat.le_of_ble_eq_true rfl) ?_
  refine R4_cadd (m := 14) (j := 0) (x := 11) (e := 4) (L1 := [.inr (0, [.int 4, .ref (b0 + (N + 4)), .int 4]), .inr (5, [.ref (b0 + (N + 2)), .ref (b0 + (N + 3)), .int 0, .int 0]), .inl (cA 0, 12, .inl (fun _ => 0)), .inl (cA 0, 12, .inl (fun _ => (-2))), .inl (cA 3, 10, .inr (.inr (.inr (.inr (va_up (va_up (va_up (va_up (fun _ => none) 0 (some (b0 + (N + 1)))) 1 (some (b0 + (N + 5)))) 2 (some (b0 + (N + 8)))) 3 (some (b0 + (N + 11)))))))), .inr (5, [.ref (b0 + (N + 6)), .ref (b0 + (N + 7)), .int 0, .int 0]), .inl (cA 0, 12, .inl (fun _ => 0)), .inl (cA 0, 12, .inl (fun _ => (-2))), .inr (5, [.ref (b0 + (N + 9)), .ref (b0 + (N + 10)), .int 0, .int 0]), .inl (cA 0, 12, .inl (fun _ => 0)), .inl (cA 0, 12, .inl (fun _ => (-2))), .inr (5, [.ref (b0 + (N + 12)), .ref (b0 + (N + 13)), .int 0, .int 0]), .inl (cA 0, 12, .inl (fun _ => 0)), .inl (cA 0, 12, .inl (fun _ => (-2)))]) G hq m_X5_19 dX5_init_33 rfl (by decide) (by decide) (by decide) (by decide) (by decide) rfl rfl rfl (m1 := 4) (by decide) (s1 := 4) (by decide) (by decide) (by unfold vp_in; decide) rfl (by omega) (by omega) (by omega) (Nat.le_of_ble_eq_true rfl) ?_
  refine B_pop G dX5_init_36 rfl ?_
  refine B_iinc2 G dX5_init_37 (v := 1) (by decide) rfl ?_
  rw [show (3 : Int32) + 1 = 4 by decide]
  refine B_goto G dX5_init_40 (tgt := 17) (by decide) ?_
  refine B_iload2 G dX5_init_17 ?_
  refine B_iload1 G dX5_init_18 ?_
  refine B_icmpge G dX5_init_19 (tgt := 43) (by decide) (fun h => absurd h (by decide)) (fun _ => ?_)
  refine B_aload0 G dX5_init_22 ?_
  refine R4_get G hq fl_X5_10 dX5_init_23 rfl ?_
  refine R4_new (m := 14) (L1 := [.inr (0, [.int 4, .ref (b0 + (N + 4)), .int 4]), .inr (5, [.ref (b0 + (N + 2)), .ref (b0 + (N + 3)), .int 0, .int 0]), .inl (cA 0, 12, .inl (fun _ => 0)), .inl (cA 0, 12, .inl (fun _ => (-2))), .inl (cA 3, 10, .inr (.inr (.inr (.inr (va_up (va_up (va_up (va_up (fun _ => none) 0 (some (b0 + (N + 1)))) 1 (some (b0 + (N + 5)))) 2 (some (b0 + (N + 8)))) 3 (some (b0 + (N + 11)))))))), .inr (5, [.ref (b0 + (N + 6)), .ref (b0 + (N + 7)), .int 0, .int 0]), .inl (cA 0, 12, .inl (fun _ => 0)), .inl (cA 0, 12, .inl (fun _ => (-2))), .inr (5, [.ref (b0 + (N + 9)), .ref (b0 + (N + 10)), .int 0, .int 0]), .inl (cA 0, 12, .inl (fun _ => 0)), .inl (cA 0, 12, .inl (fun _ => (-2))), .inr (5, [.ref (b0 + (N + 12)), .ref (b0 + (N + 13)), .int 0, .int 0]), .inl (cA 0, 12, .inl (fun _ => 0)), .inl (cA 0, 12, .inl (fun _ => (-2))), .inr (5, [.null, .null, .int 0, .int 0])]) G hq nb_X5_16 dX5_init_26 rfl rfl (by omega) (by omega) ?_
  refine B_dup G dX5_init_29 rfl ?_
  refine R4_cI (m := 15) (j := 14) (d1 := 2) (L1 := [.inr (0, [.int 4, .ref (b0 + (N + 4)), .int 4]), .inr (5, [.ref (b0 + (N + 2)), .ref (b0 + (N + 3)), .int 0, .int 0]), .inl (cA 0, 12, .inl (fun _ => 0)), .inl (cA 0, 12, .inl (fun _ => (-2))), .inl (cA 3, 10, .inr (.inr (.inr (.inr (va_up (va_up (va_up (va_up (fun _ => none) 0 (some (b0 + (N + 1)))) 1 (some (b0 + (N + 5)))) 2 (some (b0 + (N + 8)))) 3 (some (b0 + (N + 11)))))))), .inr (5, [.ref (b0 + (N + 6)), .ref (b0 + (N + 7)), .int 0, .int 0]), .inl (cA 0, 12, .inl (fun _ => 0)), .inl (cA 0, 12, .inl (fun _ => (-2))), .inr (5, [.ref (b0 + (N + 9)), .ref (b0 + (N + 10)), .int 0, .int 0]), .inl (cA 0, 12, .inl (fun _ => 0)), .inl (cA 0, 12, .inl (fun _ => (-2))), .inr (5, [.ref (b0 + (N + 12)), .ref (b0 + (N + 13)), .int 0, .int 0]), .inl (cA 0, 12, .inl (fun _ => 0)), .inl (cA 0, 12, .inl (fun _ => (-2))), .inr (5, [.ref (b0 + (N + 15)), .ref (b0 + (N + 16)), .int 0, .int 0]), .inl (cA 0, 12, .inl (fun _ => 0)), .inl (cA 0, 12, .inl (fun _ => (-2)))]) G hq mi_X5_18 dX5_init_30 rfl (by decide) (k_State (by omega) (W4_j hq rfl)) rfl (by omega) (by omega) (by omega) (Nat.le_of_ble_eq_true rfl) ?_
  refine R4_cadd (m := 17) (j := 0) (x := 14) (e := 4) (L1 := [.inr (0, [.int 5, .ref (b0 + (N + 4)), .int 5]), .inr (5, [.ref (b0 + (N + 2)), .ref (b0 + (N + 3)), .int 0, .int 0]), .inl (cA 0, 12, .inl (fun _ => 0)), .inl (cA 0, 12, .inl (fun _ => (-2))), .inl (cA 3, 10, .inr (.inr (.inr (.inr (va_up (va_up (va_up (va_up (va_up (fun _ => none) 0 (some (b0 + (N + 1)))) 1 (some (b0 + (N + 5)))) 2 (some (b0 + (N + 8)))) 3 (some (b0 + (N + 11)))) 4 (some (b0 + (N + 14)))))))), .inr (5, [.ref (b0 + (N + 6)), .ref (b0 + (N + 7)), .int 0, .int 0]), .inl (cA 0, 12, .inl (fun _ => 0)), .inl (cA 0, 12, .inl (fun _ => (-2))), .inr (5, [.ref (b0 + (N + 9)), .ref (b0 + (N + 10)), .int 0, .int 0]), .inl (cA 0, 12, .inl (fun _ => 0)), .inl (cA 0, 12, .inl (fun _ => (-2))), .inr (5, [.ref (b0 + (N + 12)), .ref (b0 + (N + 13)), .int 0, .int 0]), .inl (cA 0, 12, .inl (fun _ => 0)), .inl (cA 0, 12, .inl (fun _ => (-2))), .inr (5, [.ref (b0 + (N + 15)), .ref (b0 + (N + 16)), .int 0, .int 0]), .inl (cA 0, 12, .inl (fun _ => 0)), .inl (cA 0, 12, .inl (fun _ => (-2)))]) G hq m_X5_19 dX5_init_33 rfl (by decide) (by decide) (by decide) (by decide) (by decide) rfl rfl rfl (m1 := 5) (by decide) (s1 := 5) (by decide) (by decide) (by unfold vp_in; decide) rfl (by omega) (by omega) (by omega) (Nat.le_of_ble_eq_true rfl) ?_
  refine B_pop G dX5_init_36 rfl ?_
  refine B_iinc2 G dX5_init_37 (v := 1) (by decide) rfl ?_
  rw [show (4 : Int32) + 1 = 5 by decide]
  refine B_goto G dX5_init_40 (tgt := 17) (by decide) ?_
  refine B_iload2 G dX5_init_17 ?_
  refine B_iload1 G dX5_init_18 ?_
  refine B_icmpge G dX5_init_19 (tgt := 43) (by decide) (fun h => absurd h (by decide)) (fun _ => ?_)
  refine B_aload0 G dX5_init_22 ?_
  refine R4_get G hq fl_X5_10 dX5_init_23 rfl ?_
  refine R4_new (m := 17) (L1 := [.inr (0, [.int 5, .ref (b0 + (N + 4)), .int 5]), .inr (5, [.ref (b0 + (N + 2)), .ref (b0 + (N + 3)), .int 0, .int 0]), .inl (cA 0, 12, .inl (fun _ => 0)), .inl (cA 0, 12, .inl (fun _ => (-2))), .inl (cA 3, 10, .inr (.inr (.inr (.inr (va_up (va_up (va_up (va_up (va_up (fun _ => none) 0 (some (b0 + (N + 1)))) 1 (some (b0 + (N + 5)))) 2 (some (b0 + (N + 8)))) 3 (some (b0 + (N + 11)))) 4 (some (b0 + (N + 14)))))))), .inr (5, [.ref (b0 + (N + 6)), .ref (b0 + (N + 7)), .int 0, .int 0]), .inl (cA 0, 12, .inl (fun _ => 0)), .inl (cA 0, 12, .inl (fun _ => (-2))), .inr (5, [.ref (b0 + (N + 9)), .ref (b0 + (N + 10)), .int 0, .int 0]), .inl (cA 0, 12, .inl (fun _ => 0)), .inl (cA 0, 12, .inl (fun _ => (-2))), .inr (5, [.ref (b0 + (N + 12)), .ref (b0 + (N + 13)), .int 0, .int 0]), .inl (cA 0, 12, .inl (fun _ => 0)), .inl (cA 0, 12, .inl (fun _ => (-2))), .inr (5, [.ref (b0 + (N + 15)), .ref (b0 + (N + 16)), .int 0, .int 0]), .inl (cA 0, 12, .inl (fun _ => 0)), .inl (cA 0, 12, .inl (fun _ => (-2))), .inr (5, [.null, .null, .int 0, .int 0])]) G hq nb_X5_16 dX5_init_26 rfl rfl (by omega) (by omega) ?_
  refine B_dup G dX5_init_29 rfl ?_
  refine R4_cI (m := 18) (j := 17) (d1 := 2) (L1 := [.inr (0, [.int 5, .ref (b0 + (N + 4)), .int 5]), .inr (5, [.ref (b0 + (N + 2)), .ref (b0 + (N + 3)), .int 0, .int 0]), .inl (cA 0, 12, .inl (fun _ => 0)), .inl (cA 0, 12, .inl (fun _ => (-2))), .inl (cA 3, 10, .inr (.inr (.inr (.inr (va_up (va_up (va_up (va_up (va_up (fun _ => none) 0 (some (b0 + (N + 1)))) 1 (some (b0 + (N + 5)))) 2 (some (b0 + (N + 8)))) 3 (some (b0 + (N + 11)))) 4 (some (b0 + (N + 14)))))))), .inr (5, [.ref (b0 + (N + 6)), .ref (b0 + (N + 7)), .int 0, .int 0]), .inl (cA 0, 12, .inl (fun _ => 0)), .inl (cA 0, 12, .inl (fun _ => (-2))), .inr (5, [.ref (b0 + (N + 9)), .ref (b0 + (N + 10)), .int 0, .int 0]), .inl (cA 0, 12, .inl (fun _ => 0)), .inl (cA 0, 12, .inl (fun _ => (-2))), .inr (5, [.ref (b0 + (N + 12)), .ref (b0 + (N + 13)), .int 0, .int 0]), .inl (cA 0, 12, .inl (fun _ => 0)), .inl (cA 0, 12, .inl (fun _ => (-2))), .inr (5, [.ref (b0 + (N + 15)), .ref (b0 + (N + 16)), .int 0, .int 0]), .inl (cA 0, 12, .inl (fun _ => 0)), .inl (cA 0, 12, .inl (fun _ => (-2))), .inr (5, [.ref (b0 + (N + 18)), .ref (b0 + (N + 19)), .int 0, .int 0]), .inl (cA 0, 12, .inl (fun _ => 0)), .inl (cA 0, 12, .inl (fun _ => (-2)))]) G hq mi_X5_18 dX5_init_30 rfl (by decide) (k_State (by omega) (W4_j hq rfl)) rfl (by omega) (by omega) (by omega) (Nat.le_of_ble_eq_true rfl) ?_
  refine R4_cadd (m := 20) (j := 0) (x := 17) (e := 4) (L1 := [.inr (0, [.int 6, .ref (b0 + (N + 4)), .int 6]), .inr (5, [.ref (b0 + (N + 2)), .ref (b0 + (N + 3)), .int 0, .int 0]), .inl (cA 0, 12, .inl (fun _ => 0)), .inl (cA 0, 12, .inl (fun _ => (-2))), .inl (cA 3, 10, .inr (.inr (.inr (.inr (va_up (va_up (va_up (va_up (va_up (va_up (fun _ => none) 0 (some (b0 + (N + 1)))) 1 (some (b0 + (N + 5)))) 2 (some (b0 + (N + 8)))) 3 (some (b0 + (N + 11)))) 4 (some (b0 + (N + 14)))) 5 (some (b0 + (N + 17)))))))), .inr (5, [.ref (b0 + (N + 6)), .ref (b0 + (N + 7)), .int 0, .int 0]), .inl (cA 0, 12, .inl (fun _ => 0)), .inl (cA 0, 12, .inl (fun _ => (-2))), .inr (5, [.ref (b0 + (N + 9)), .ref (b0 + (N + 10)), .int 0, .int 0]), .inl (cA 0, 12, .inl (fun _ => 0)), .inl (cA 0, 12, .inl (fun _ => (-2))), .inr (5, [.ref (b0 + (N + 12)), .ref (b0 + (N + 13)), .int 0, .int 0]), .inl (cA 0, 12, .inl (fun _ => 0)), .inl (cA 0, 12, .inl (fun _ => (-2))), .inr (5, [.ref (b0 + (N + 15)), .ref (b0 + (N + 16)), .int 0, .int 0]), .inl (cA 0, 12, .inl (fun _ => 0)), .inl (cA 0, 12, .inl (fun _ => (-2))), .inr (5, [.ref (b0 + (N + 18)), .ref (b0 + (N + 19)), .int 0, .int 0]), .inl (cA 0, 12, .inl (fun _ => 0)), .inl (cA 0, 12, .inl (fun _ => (-2)))]) G hq m_X5_19 dX5_init_33 rfl (by decide) (by decide) (by decide) (by decide) (by decide) rfl rfl rfl (m1 := 6) (by decide) (s1 := 6) (by decide) (by decide) (by unfold vp_in; decide) rfl (by omega) (by omega) (by omega) (Nat.le_of_ble_eq_true rfl) ?_
  refine B_pop G dX5_init_36 rfl ?_
  refine B_iinc2 G dX5_init_37 (v := 1) (by decide) rfl ?_
  rw [show (5 : Int32) + 1 = 6 by decide]
  refine B_goto G dX5_init_40 (tgt := 17) (by decide) ?_
  refine B_iload2 G dX5_init_17 ?_
  refine B_iload1 G dX5_init_18 ?_
  refine B_icmpge G dX5_init_19 (tgt := 43) (by decide) (fun _ => ?_) (fun h => absurd h (by decide))
  exact R4_retv E dX5_init_43 rfl rfl (by omega) (by omega)

set_option maxRecDepth 100000 in
set_option maxHeartbeats 4000000 in
theorem k_States2 {l : Launch} {cA : Nat → ClassId} {b0 z N q : Nat} {f : Nat → va_E} (hq : q < N) (he : f q = .inr (6, [.null])) : CB l 6 8 69 yX5_init cX5_init 3 none cA b0 z [.ref (b0 + q), .int 2] (wl b0 N f) (w4 b0 N f q (.inr (6, [.ref (b0 + (N + 0))])) [.inr (0, [.int 2, .ref (b0 + (N + 4)), .int 2]), .inr (5, [.ref (b0 + (N + 2)), .ref (b0 + (N + 3)), .int 0, .int 0]), .inl (cA 0, 12, .inl (fun _ => 0)), .inl (cA 0, 12, .inl (fun _ => (-2))), .inl (cA 3, 10, .inr (.inr (.inr (.inr (va_up (va_up (fun _ => none) 0 (some (b0 + (N + 1)))) 1 (some (b0 + (N + 5)))))))), .inr (5, [.ref (b0 + (N + 6)), .ref (b0 + (N + 7)), .int 0, .int 0]), .inl (cA 0, 12, .inl (fun _ => 0)), .inl (cA 0, 12, .inl (fun _ => (-2)))]) none := by
  refine CB.ofBV (L := [some (.ref (b0 + q)), some (.int 2), none]) RX5 (by decide +kernel) rfl (Nat.le_of_ble_eq_true rfl) rfl (fun X hX G I E => ?_)
  subst hX
  rw [w4_start he]
  refine B_aload0 G dX5_init_0 ?_
  refine B_obj G ob_X5_1 dX5_init_1 (by omega) (Nat.le_of_ble_eq_true rfl) ?_
  refine B_aload0 G dX5_init_4 ?_
  refine R4_new (m := 0) (L1 := [.inr (0, [.int 0, .null, .int 0])]) G hq nb_X5_7 dX5_init_5 rfl rfl (by omega) (by omega) ?_
  refine B_dup G dX5_init_8 rfl ?_
  refine R4_cI (m := 1) (j := 0) (d1 := 3) (L1 := [.inr (0, [.int 0, .ref z, .int 0])]) G hq mi_X5_9 dX5_init_9 rfl (by decide) (k_list (by omega) (W4_j hq rfl)) rfl (by omega) (by omega) (by omega) (Nat.le_of_ble_eq_true rfl) ?_
  refine R4_put (fs1 := [.ref (b0 + (N + 0))]) G hq pb_X5_10 (fun _ => I rfl) dX5_init_12 rfl rfl (Nat.le_of_ble_eq_true rfl) rfl ?_
  refine B_iconst G dX5_init_15 (v := 0) (by decide) ?_
  refine B_istore2 G dX5_init_16 rfl ?_
  refine B_iload2 G dX5_init_17 ?_
  refine B_iload1 G dX5_init_18 ?_
  refine B_icmpge G dX5_init_19 (tgt := 43) (by decide) (fun h => absurd h (by decide)) (fun _ => ?_)
  refine B_aload0 G dX5_init_22 ?_
  refine R4_get G hq fl_X5_10 dX5_init_23 rfl ?_
  refine R4_new (m := 1) (L1 := [.inr (0, [.int 0, .ref z, .int 0]), .inr (5, [.null, .null, .int 0, .int 0])]) G hq nb_X5_16 dX5_init_26 rfl rfl (by omega) (by omega) ?_
  refine B_dup G dX5_init_29 rfl ?_
  refine R4_cI (m := 2) (j := 1) (d1 := 2) (L1 := [.inr (0, [.int 0, .ref z, .int 0]), .inr (5, [.ref (b0 + (N + 2)), .ref (b0 + (N + 3)), .int 0, .int 0]), .inl (cA 0, 12, .inl (fun _ => 0)), .inl (cA 0, 12, .inl (fun _ => (-2)))]) G hq mi_X5_18 dX5_init_30 rfl (by decide) (k_State (by omega) (W4_j hq rfl)) rfl (by omega) (by omega) (by omega) (Nat.le_of_ble_eq_true rfl) ?_
  refine R4_cadd1 (m := 4) (j := 0) (x := 1) (L1 := [.inr (0, [.int 1, .ref (b0 + (N + 4)), .int 1]), .inr (5, [.ref (b0 + (N + 2)), .ref (b0 + (N + 3)), .int 0, .int 0]), .inl (cA 0, 12, .inl (fun _ => 0)), .inl (cA 0, 12, .inl (fun _ => (-2))), .inl (cA 3, 10, .inr (.inr (.inr (.inr (va_up (fun _ => none) 0 (some (b0 + (N + 1))))))))]) G hq m_X5_19 dX5_init_33 rfl (by decide) (by decide) (by decide) rfl rfl rfl (by omega) (by omega) (by omega) (Nat.le_of_ble_eq_true rfl) ?_
  refine B_pop G dX5_init_36 rfl ?_
  refine B_iinc2 G dX5_init_37 (v := 1) (by decide) rfl ?_
  rw [show (0 : Int32) + 1 = 1 by decide]
  refine B_goto G dX5_init_40 (tgt := 17) (by decide) ?_
  refine B_iload2 G dX5_init_17 ?_
  refine B_iload1 G dX5_init_18 ?_
  refine B_icmpge G dX5_init_19 (tgt := 43) (by decide) (fun h => absurd h (by decide)) (fun _ => ?_)
  refine B_aload0 G dX5_init_22 ?_
  refine R4_get G hq fl_X5_10 dX5_init_23 rfl ?_
  refine R4_new (m := 5) (L1 := [.inr (0, [.int 1, .ref (b0 + (N + 4)), .int 1]), .inr (5, [.ref (b0 + (N + 2)), .ref (b0 + (N + 3)), .int 0, .int 0]), .inl (cA 0, 12, .inl (fun _ => 0)), .inl (cA 0, 12, .inl (fun _ => (-2))), .inl (cA 3, 10, .inr (.inr (.inr (.inr (va_up (fun _ => none) 0 (some (b0 + (N + 1)))))))), .inr (5, [.null, .null, .int 0, .int 0])]) G hq nb_X5_16 dX5_init_26 rfl rfl (by omega) (by omega) ?_
  refine B_dup G dX5_init_29 rfl ?_
  refine R4_cI (m := 6) (j := 5) (d1 := 2) (L1 := [.inr (0, [.int 1, .ref (b0 + (N + 4)), .int 1]), .inr (5, [.ref (b0 + (N + 2)), .ref (b0 + (N + 3)), .int 0, .int 0]), .inl (cA 0, 12, .inl (fun _ => 0)), .inl (cA 0, 12, .inl (fun _ => (-2))), .inl (cA 3, 10, .inr (.inr (.inr (.inr (va_up (fun _ => none) 0 (some (b0 + (N + 1)))))))), .inr (5, [.ref (b0 + (N + 6)), .ref (b0 + (N + 7)), .int 0, .int 0]), .inl (cA 0, 12, .inl (fun _ => 0)), .inl (cA 0, 12, .inl (fun _ => (-2)))]) G hq mi_X5_18 dX5_init_30 rfl (by decide) (k_State (by omega) (W4_j hq rfl)) rfl (by omega) (by omega) (by omega) (Nat.le_of_ble_eq_true rfl) ?_
  refine R4_cadd (m := 8) (j := 0) (x := 5) (e := 4) (L1 := [.inr (0, [.int 2, .ref (b0 + (N + 4)), .int 2]), .inr (5, [.ref (b0 + (N + 2)), .ref (b0 + (N + 3)), .int 0, .int 0]), .inl (cA 0, 12, .inl (fun _ => 0)), .inl (cA 0, 12, .inl (fun _ => (-2))), .inl (cA 3, 10, .inr (.inr (.inr (.inr (va_up (va_up (fun _ => none) 0 (some (b0 + (N + 1)))) 1 (some (b0 + (N + 5)))))))), .inr (5, [.ref (b0 + (N + 6)), .ref (b0 + (N + 7)), .int 0, .int 0]), .inl (cA 0, 12, .inl (fun _ => 0)), .inl (cA 0, 12, .inl (fun _ => (-2)))]) G hq m_X5_19 dX5_init_33 rfl (by decide) (by decide) (by decide) (by decide) (by decide) rfl rfl rfl (m1 := 2) (by decide) (s1 := 2) (by decide) (by decide) (by unfold vp_in; decide) rfl (by omega) (by omega) (by omega) (Nat.le_of_ble_eq_true rfl) ?_
  refine B_pop G dX5_init_36 rfl ?_
  refine B_iinc2 G dX5_init_37 (v := 1) (by decide) rfl ?_
  rw [show (1 : Int32) + 1 = 2 by decide]
  refine B_goto G dX5_init_40 (tgt := 17) (by decide) ?_
  refine B_iload2 G dX5_init_17 ?_
  refine B_iload1 G dX5_init_18 ?_
  refine B_icmpge G dX5_init_19 (tgt := 43) (by decide) (fun _ => ?_) (fun h => absurd h (by decide))
  exact R4_retv E dX5_init_43 rfl rfl (by omega) (by omega)

end CTC
