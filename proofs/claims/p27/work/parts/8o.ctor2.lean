section CTB
set_option maxRecDepth 100000 in
set_option maxHeartbeats 4000000 in
theorem k_State {l : Launch} {cA : Nat → ClassId} {b0 z N q : Nat} {f : Nat → va_E} (hq : q < N) (he : f q = .inr (5, [.null, .null, .int 0, .int 0])) : CB l 2 2 24 yX4_init cX4_init 1 none cA b0 z [.ref (b0 + q)] (wl b0 N f) (w4 b0 N f q (.inr (5, [.ref (b0 + (N + 0)), .ref (b0 + (N + 1)), .int 0, .int 0])) [.inl (cA 0, 12, .inl (fun _ => 0)), .inl (cA 0, 12, .inl (fun _ => (-2)))]) none := by
  refine CB.ofBV (L := [some (.ref (b0 + q))]) RX4 (by decide +kernel) rfl (Nat.le_of_ble_eq_true rfl) rfl (fun X hX G I E => ?_)
  subst hX
  rw [w4_start he]
  refine B_aload0 G dX4_init_0 ?_
  refine B_obj G ob_X4_3 dX4_init_1 (by omega) (Nat.le_of_ble_eq_true rfl) ?_
  refine B_aload0 G dX4_init_4 ?_
  refine B_bipush G dX4_init_5 (v := Int32.ofInt (12)) (by decide) ?_
  refine R4_newi (n9 := 12) (m := 0) (L1 := [.inl (cA 0, 12, .inl (fun _ => 0))]) G hq dX4_init_7 rfl (by decide) rfl rfl (by omega) (by omega) ?_
  refine R4_put (fs1 := [.ref (b0 + (N + 0)), .null, .int 0, .int 0]) G hq pb_X4_9 (fun _ => I rfl) dX4_init_9 rfl rfl (Nat.le_of_ble_eq_true rfl) rfl ?_
  refine B_aload0 G dX4_init_12 ?_
  refine B_bipush G dX4_init_13 (v := Int32.ofInt (12)) (by decide) ?_
  refine R4_newi (n9 := 12) (m := 1) (L1 := [.inl (cA 0, 12, .inl (fun _ => 0)), .inl (cA 0, 12, .inl (fun _ => 0))]) G hq dX4_init_15 rfl (by decide) rfl rfl (by omega) (by omega) ?_
  refine R4_put (fs1 := [.ref (b0 + (N + 0)), .ref (b0 + (N + 1)), .int 0, .int 0]) G hq pb_X4_15 (fun _ => I rfl) dX4_init_17 rfl rfl (Nat.le_of_ble_eq_true rfl) rfl ?_
  refine B_aload0 G dX4_init_20 ?_
  refine B_iconst G dX4_init_21 (v := 0) (by decide) ?_
  refine R4_put (fs1 := [.ref (b0 + (N + 0)), .ref (b0 + (N + 1)), .int 0, .int 0]) G hq pb_X4_18 (fun _ => I rfl) dX4_init_22 rfl rfl (Nat.le_of_ble_eq_true rfl) rfl ?_
  refine B_aload0 G dX4_init_25 ?_
  refine B_iconst G dX4_init_26 (v := 0) (by decide) ?_
  refine R4_put (fs1 := [.ref (b0 + (N + 0)), .ref (b0 + (N + 1)), .int 0, .int 0]) G hq pb_X4_22 (fun _ => I rfl) dX4_init_27 rfl rfl (Nat.le_of_ble_eq_true rfl) rfl ?_
  refine B_aload0 G dX4_init_30 ?_
  refine R4_get G hq fl_X4_15 dX4_init_31 rfl ?_
  refine B_bipush G dX4_init_34 (v := -2) (by decide) ?_
  refine B_cS2 (d1 := 1) G m_X4_25 dX4_init_36 (k_fill (q := N + 1) (n9 := 12) (by show N + 1 < N + 2; omega) (W4_j hq rfl) (by decide)) (by omega) (by omega) (by omega) (Nat.le_of_ble_eq_true rfl) ?_
  rw [W4_upj hq (Nat.le_of_ble_eq_true rfl)]
  show BV X _ _ _ _ _ _ (w4 b0 N f q _ [.inl (cA 0, 12, .inl (fun _ => 0)), .inl (cA 0, 12, .inl (fun _ => (-2)))])
  exact R4_retv E dX4_init_39 rfl rfl (by omega) (by omega)

set_option maxRecDepth 100000 in
set_option maxHeartbeats 4000000 in
theorem k_Readings {l : Launch} {cA : Nat → ClassId} {b0 z N q : Nat} {f : Nat → va_E} (hq : q < N) (he : f q = .inr (4, [.null, .int 0, .null, .null, .int 0])) : CB l 1 3 66 yX3_init cX3_init 1 none cA b0 z [.ref (b0 + q)] (wl b0 N f) (w4 b0 N f q (.inr (4, [.ref (b0 + (N + 0)), .int 0, .ref (b0 + (N + 1)), .ref (b0 + (N + 2)), .int 0])) [.inl (cA 1, 42, .inr (.inl (fun _ => 0))), .inl (cA 0, 12, .inl (fun _ => 0)), .inl (cA 0, 12, .inl (fun _ => 0))]) none := by
  refine CB.ofBV (L := [some (.ref (b0 + q))]) RX3 (by decide +kernel) rfl (Nat.le_of_ble_eq_true rfl) rfl (fun X hX G I E => ?_)
  subst hX
  rw [w4_start he]
  refine B_aload0 G dX3_init_0 ?_
  refine B_obj G ob_X3_3 dX3_init_1 (by omega) (Nat.le_of_ble_eq_true rfl) ?_
  refine B_aload0 G dX3_init_4 ?_
  refine B_bipush G dX3_init_5 (v := Int32.ofInt (42)) (by decide) ?_
  refine R4_newl (n9 := 42) (m := 0) (L1 := [.inl (cA 1, 42, .inr (.inl (fun _ => 0)))]) G hq dX3_init_7 rfl (by decide) rfl rfl (by omega) (by omega) ?_
  refine R4_put (fs1 := [.ref (b0 + (N + 0)), .int 0, .null, .null, .int 0]) G hq pb_X3_9 (fun _ => I rfl) dX3_init_9 rfl rfl (Nat.le_of_ble_eq_true rfl) rfl ?_
  refine B_aload0 G dX3_init_12 ?_
  refine B_iconst G dX3_init_13 (v := 0) (by decide) ?_
  refine R4_put (fs1 := [.ref (b0 + (N + 0)), .int 0, .null, .null, .int 0]) G hq pb_X3_15 (fun _ => I rfl) dX3_init_14 rfl rfl (Nat.le_of_ble_eq_true rfl) rfl ?_
  refine B_aload0 G dX3_init_17 ?_
  refine B_bipush G dX3_init_18 (v := Int32.ofInt (12)) (by decide) ?_
  refine R4_newi (n9 := 12) (m := 1) (L1 := [.inl (cA 1, 42, .inr (.inl (fun _ => 0))), .inl (cA 0, 12, .inl (fun _ => 0))]) G hq dX3_init_20 rfl (by decide) rfl rfl (by omega) (by omega) ?_
  refine R4_put (fs1 := [.ref (b0 + (N + 0)), .int 0, .ref (b0 + (N + 1)), .null, .int 0]) G hq pb_X3_19 (fun _ => I rfl) dX3_init_22 rfl rfl (Nat.le_of_ble_eq_true rfl) rfl ?_
  refine B_aload0 G dX3_init_25 ?_
  refine B_bipush G dX3_init_26 (v := Int32.ofInt (12)) (by decide) ?_
  refine R4_newi (n9 := 12) (m := 2) (L1 := [.inl (cA 1, 42, .inr (.inl (fun _ => 0))), .inl (cA 0, 12, .inl (fun _ => 0)), .inl (cA 0, 12, .inl (fun _ => 0))]) G hq dX3_init_28 rfl (by decide) rfl rfl (by omega) (by omega) ?_
  refine R4_put (fs1 := [.ref (b0 + (N + 0)), .int 0, .ref (b0 + (N + 1)), .ref (b0 + (N + 2)), .int 0]) G hq pb_X3_23 (fun _ => I rfl) dX3_init_30 rfl rfl (Nat.le_of_ble_eq_true rfl) rfl ?_
  refine B_aload0 G dX3_init_33 ?_
  refine B_iconst G dX3_init_34 (v := 0) (by decide) ?_
  refine R4_put (fs1 := [.ref (b0 + (N + 0)), .int 0, .ref (b0 + (N + 1)), .ref (b0 + (N + 2)), .int 0]) G hq pb_X3_26 (fun _ => I rfl) dX3_init_35 rfl rfl (Nat.le_of_ble_eq_true rfl) rfl ?_
  exact R4_retv E dX3_init_38 rfl rfl (by omega) (by omega)

set_option maxRecDepth 100000 in
set_option maxHeartbeats 4000000 in
theorem k_Grid {l : Launch} {cA : Nat → ClassId} {b0 z N q : Nat} {f : Nat → va_E} (hq : q < N) (he : f q = .inr (2, [.null])) : CB l 1 1 169 yX1_init cX1_init 1 none cA b0 z [.ref (b0 + q)] (wl b0 N f) (w4 b0 N f q (.inr (2, [.ref (b0 + (N + 0))])) [.inl (cA 0, 169, .inl (fun _ => 0))]) none := by
  refine CB.ofBV (L := [some (.ref (b0 + q))]) RX1 (by decide +kernel) rfl (Nat.le_of_ble_eq_true rfl) rfl (fun X hX G I E => ?_)
  subst hX
  rw [w4_start he]
  refine B_aload0 G dX1_init_0 ?_
  refine B_obj G ob_X1_3 dX1_init_1 (by omega) (Nat.le_of_ble_eq_true rfl) ?_
  refine B_aload0 G dX1_init_4 ?_
  refine B_sipush G dX1_init_5 (v := Int32.ofInt (169)) (by decide) ?_
  refine R4_newi (n9 := 169) (m := 0) (L1 := [.inl (cA 0, 169, .inl (fun _ => 0))]) G hq dX1_init_8 rfl (by decide) rfl rfl (by omega) (by omega) ?_
  refine R4_put (fs1 := [.ref (b0 + (N + 0))]) G hq pb_X1_11 (fun _ => I rfl) dX1_init_10 rfl rfl (Nat.le_of_ble_eq_true rfl) rfl ?_
  exact R4_retv E dX1_init_13 rfl rfl (by omega) (by omega)

set_option maxRecDepth 100000 in
set_option maxHeartbeats 4000000 in
theorem k_Parts {l : Launch} {cA : Nat → ClassId} {b0 z N q : Nat} {f : Nat → va_E} (hq : q < N) (he : f q = .inr (3, [.null, .null, .null, .null, .null, .null, .null])) : CB l 2 14 1190 yX2_init cX2_init 1 none cA b0 z [.ref (b0 + q)] (wl b0 N f) (w4 b0 N f q (.inr (3, [.ref (b0 + (N + 0)), .ref (b0 + (N + 2)), .ref (b0 + (N + 4)), .ref (b0 + (N + 6)), .ref (b0 + (N + 8)), .ref (b0 + (N + 10)), .ref (b0 + (N + 12))])) [.inr (2, [.ref (b0 + (N + 1))]), .inl (cA 0, 169, .inl (fun _ => 0)), .inr (2, [.ref (b0 + (N + 3))]), .inl (cA 0, 169, .inl (fun _ => 0)), .inr (2, [.ref (b0 + (N + 5))]), .inl (cA 0, 169, .inl (fun _ => 0)), .inr (2, [.ref (b0 + (N + 7))]), .inl (cA 0, 169, .inl (fun _ => 0)), .inr (2, [.ref (b0 + (N + 9))]), .inl (cA 0, 169, .inl (fun _ => 0)), .inr (2, [.ref (b0 + (N + 11))]), .inl (cA 0, 169, .inl (fun _ => 0)), .inr (2, [.ref (b0 + (N + 13))]), .inl (cA 0, 169, .inl (fun _ => 0))]) none := by
  refine CB.ofBV (L := [some (.ref (b0 + q))]) RX2 (by decide +kernel) rfl (Nat.le_of_ble_eq_true rfl) rfl (fun X hX G I E => ?_)
  subst hX
  rw [w4_start he]
  refine B_aload0 G dX2_init_0 ?_
  refine B_obj G ob_X2_3 dX2_init_1 (by omega) (Nat.le_of_ble_eq_true rfl) ?_
  refine B_aload0 G dX2_init_4 ?_
  refine R4_new (m := 0) (L1 := [.inr (2, [.null])]) G hq nb_X2_9 dX2_init_5 rfl rfl (by omega) (by omega) ?_
  refine B_dup G dX2_init_8 rfl ?_
  refine R4_cI (m := 1) (j := 0) (d1 := 1) (L1 := [.inr (2, [.ref (b0 + (N + 1))]), .inl (cA 0, 169, .inl (fun _ => 0))]) G hq mi_X2_11 dX2_init_9 rfl (by decide) (k_Grid (by omega) (W4_j hq rfl)) rfl (by omega) (by omega) (by omega) (Nat.le_of_ble_eq_true rfl) ?_
  refine R4_put (fs1 := [.ref (b0 + (N + 0)), .null, .null, .null, .null, .null, .null]) G hq pb_X2_12 (fun _ => I rfl) dX2_init_12 rfl rfl (Nat.le_of_ble_eq_true rfl) rfl ?_
  refine B_aload0 G dX2_init_15 ?_
  refine R4_new (m := 2) (L1 := [.inr (2, [.ref (b0 + (N + 1))]), .inl (cA 0, 169, .inl (fun _ => 0)), .inr (2, [.null])]) G hq nb_X2_9 dX2_init_16 rfl rfl (by omega) (by omega) ?_
  refine B_dup G dX2_init_19 rfl ?_
  refine R4_cI (m := 3) (j := 2) (d1 := 1) (L1 := [.inr (2, [.ref (b0 + (N + 1))]), .inl (cA 0, 169, .inl (fun _ => 0)), .inr (2, [.ref (b0 + (N + 3))]), .inl (cA 0, 169, .inl (fun _ => 0))]) G hq mi_X2_11 dX2_init_20 rfl (by decide) (k_Grid (by omega) (W4_j hq rfl)) rfl (by omega) (by omega) (by omega) (Nat.le_of_ble_eq_true rfl) ?_
  refine R4_put (fs1 := [.ref (b0 + (N + 0)), .ref (b0 + (N + 2)), .null, .null, .null, .null, .null]) G hq pb_X2_18 (fun _ => I rfl) dX2_init_23 rfl rfl (Nat.le_of_ble_eq_true rfl) rfl ?_
  refine B_aload0 G dX2_init_26 ?_
  refine R4_new (m := 4) (L1 := [.inr (2, [.ref (b0 + (N + 1))]), .inl (cA 0, 169, .inl (fun _ => 0)), .inr (2, [.ref (b0 + (N + 3))]), .inl (cA 0, 169, .inl (fun _ => 0)), .inr (2, [.null])]) G hq nb_X2_9 dX2_init_27 rfl rfl (by omega) (by omega) ?_
  refine B_dup G dX2_init_30 rfl ?_
  refine R4_cI (m := 5) (j := 4) (d1 := 1) (L1 := [.inr (2, [.ref (b0 + (N + 1))]), .inl (cA 0, 169, .inl (fun _ => 0)), .inr (2, [.ref (b0 + (N + 3))]), .inl (cA 0, 169, .inl (fun _ => 0)), .inr (2, [.ref (b0 + (N + 5))]), .inl (cA 0, 169, .inl (fun _ => 0))]) G hq mi_X2_11 dX2_init_31 rfl (by decide) (k_Grid (by omega) (W4_j hq rfl)) rfl (by omega) (by omega) (by omega) (Nat.le_of_ble_eq_true rfl) ?_
  refine R4_put (fs1 := [.ref (b0 + (N + 0)), .ref (b0 + (N + 2)), .ref (b0 + (N + 4)), .null, .null, .null, .null]) G hq pb_X2_21 (fun _ => I rfl) dX2_init_34 rfl rfl (Nat.le_of_ble_eq_true rfl) rfl ?_
  refine B_aload0 G dX2_init_37 ?_
  refine R4_new (m := 6) (L1 := [.inr (2, [.ref (b0 + (N + 1))]), .inl (cA 0, 169, .inl (fun _ => 0)), .inr (2, [.ref (b0 + (N + 3))]), .inl (cA 0, 169, .inl (fun _ => 0)), .inr (2, [.ref (b0 + (N + 5))]), .inl (cA 0, 169, .inl (fun _ => 0)), .inr (2, [.null])]) G hq nb_X2_9 dX2_init_38 rfl rfl (by omega) (by omega) ?_
  refine B_dup G dX2_init_41 rfl ?_
  refine R4_cI (m := 7) (j := 6) (d1 := 1) (L1 := [.inr (2, [.ref (b0 + (N + 1))]), .inl (cA 0, 169, .inl (fun _ => 0)), .inr (2, [.ref (b0 + (N + 3))]), .inl (cA 0, 169, .inl (fun _ => 0)), .inr (2, [.ref (b0 + (N + 5))]), .inl (cA 0, 169, .inl (fun _ => 0)), .inr (2, [.ref (b0 + (N + 7))]), .inl (cA 0, 169, .inl (fun _ => 0))]) G hq mi_X2_11 dX2_init_42 rfl (by decide) (k_Grid (by omega) (W4_j hq rfl)) rfl (by omega) (by omega) (by omega) (Nat.le_of_ble_eq_true rfl) ?_
  refine R4_put (fs1 := [.ref (b0 + (N + 0)), .ref (b0 + (N + 2)), .ref (b0 + (N + 4)), .ref (b0 + (N + 6)), .null, .null, .null]) G hq pb_X2_24 (fun _ => I rfl) dX2_init_45 rfl rfl (Nat.le_of_ble_eq_true rfl) rfl ?_
  refine B_aload0 G dX2_init_48 ?_
  refine R4_new (m := 8) (L1 := [.inr (2, [.ref (b0 + (N + 1))]), .inl (cA 0, 169, .inl (fun _ => 0)), .inr (2, [.ref (b0 + (N + 3))]), .inl (cA 0, 169, .inl (fun _ => 0)), .inr (2, [.ref (b0 + (N + 5))]), .inl (cA 0, 169, .inl (fun _ => 0)), .inr (2, [.ref (b0 + (N + 7))]), .inl (cA 0, 169, .inl (fun _ => 0)), .inr (2, [.null])]) G hq nb_X2_9 dX2_init_49 rfl rfl (by omega) (by omega) ?_
  refine B_dup G dX2_init_52 rfl ?_
  refine R4_cI (m := 9) (j := 8) (d1 := 1) (L1 := [.inr (2, [.ref (b0 + (N + 1))]), .inl (cA 0, 169, .inl (fun _ => 0)), .inr (2, [.ref (b0 + (N + 3))]), .inl (cA 0, 169, .inl (fun _ => 0)), .inr (2, [.ref (b0 + (N + 5))]), .inl (cA 0, 169, .inl (fun _ => 0)), .inr (2, [.ref (b0 + (N + 7))]), .inl (cA 0, 169, .inl (fun _ => 0)), .inr (2, [.ref (b0 + (N + 9))]), .inl (cA 0, 169, .inl (fun _ => 0))]) G hq mi_X2_11 dX2_init_53 rfl (by decide) (k_Grid (by omega) (W4_j hq rfl)) rfl (by omega) (by omega) (by omega) (Nat.le_of_ble_eq_true rfl) ?_
  refine R4_put (fs1 := [.ref (b0 + (N + 0)), .ref (b0 + (N + 2)), .ref (b0 + (N + 4)), .ref (b0 + (N + 6)), .ref (b0 + (N + 8)), .null, .null]) G hq pb_X2_27 (fun _ => I rfl) dX2_init_56 rfl rfl (Nat.le_of_ble_eq_true rfl) rfl ?_
  refine B_aload0 G dX2_init_59 ?_
  refine R4_new (m := 10) (L1 := [.inr (2, [.ref (b0 + (N + 1))]), .inl (cA 0, 169, .inl (fun _ => 0)), .inr (2, [.ref (b0 + (N + 3))]), .inl (cA 0, 169, .inl (fun _ => 0)), .inr (2, [.ref (b0 + (N + 5))]), .inl (cA 0, 169, .inl (fun _ => 0)), .inr (2, [.ref (b0 + (N + 7))]), .inl (cA 0, 169, .inl (fun _ => 0)), .inr (2, [.ref (b0 + (N + 9))]), .inl (cA 0, 169, .inl (fun _ => 0)), .inr (2, [.null])]) G hq nb_X2_9 dX2_init_60 rfl rfl (by omega) (by omega) ?_
  refine B_dup G dX2_init_63 rfl ?_
  refine R4_cI (m := 11) (j := 10) (d1 := 1) (L1 := [.inr (2, [.ref (b0 + (N + 1))]), .inl (cA 0, 169, .inl (fun _ => 0)), .inr (2, [.ref (b0 + (N + 3))]), .inl (cA 0, 169, .inl (fun _ => 0)), .inr (2, [.ref (b0 + (N + 5))]), .inl (cA 0, 169, .inl (fun _ => 0)), .inr (2, [.ref (b0 + (N + 7))]), .inl (cA 0, 169, .inl (fun _ => 0)), .inr (2, [.ref (b0 + (N + 9))]), .inl (cA 0, 169, .inl (fun _ => 0)), .inr (2, [.ref (b0 + (N + 11))]), .inl (cA 0, 169, .inl (fun _ => 0))]) G hq mi_X2_11 dX2_init_64 rfl (by decide) (k_Grid (by omega) (W4_j hq rfl)) rfl (by omega) (by omega) (by omega) (Nat.le_of_ble_eq_true rfl) ?_
  refine R4_put (fs1 := [.ref (b0 + (N + 0)), .ref (b0 + (N + 2)), .ref (b0 + (N + 4)), .ref (b0 + (N + 6)), .ref (b0 + (N + 8)), .ref (b0 + (N + 10)), .null]) G hq pb_X2_30 (fun _ => I rfl) dX2_init_67 rfl rfl (Nat.le_of_ble_eq_true rfl) rfl ?_
  refine B_aload0 G dX2_init_70 ?_
  refine R4_new (m := 12) (L1 := [.inr (2, [.ref (b0 + (N + 1))]), .inl (cA 0, 169, .inl (fun _ => 0)), .inr (2, [.ref (b0 + (N + 3))]), .inl (cA 0, 169, .inl (fun _ => 0)), .inr (2, [.ref (b0 + (N + 5))]), .inl (cA 0, 169, .inl (fun _ => 0)), .inr (2, [.ref (b0 + (N + 7))]), .inl (cA 0, 169, .inl (fun _ => 0)), .inr (2, [.ref (b0 + (N + 9))]), .inl (cA 0, 169, .inl (fun _ => 0)), .inr (2, [.ref (b0 + (N + 11))]), .inl (cA 0, 169, .inl (fun _ => 0)), .inr (2, [.null])]) G hq nb_X2_9 dX2_init_71 rfl rfl (by omega) (by omega) ?_
  refine B_dup G dX2_init_74 rfl ?_
  refine R4_cI (m := 13) (j := 12) (d1 := 1) (L1 := [.inr (2, [.ref (b0 + (N + 1))]), .inl (cA 0, 169, .inl (fun _ => 0)), .inr (2, [.ref (b0 + (N + 3))]), .inl (cA 0, 169, .inl (fun _ => 0)), .inr (2, [.ref (b0 + (N + 5))]), .inl (cA 0, 169, .inl (fun _ => 0)), .inr (2, [.ref (b0 + (N + 7))]), .inl (cA 0, 169, .inl (fun _ => 0)), .inr (2, [.ref (b0 + (N + 9))]), .inl (cA 0, 169, .inl (fun _ => 0)), .inr (2, [.ref (b0 + (N + 11))]), .inl (cA 0, 169, .inl (fun _ => 0)), .inr (2, [.ref (b0 + (N + 13))]), .inl (cA 0, 169, .inl (fun _ => 0))]) G hq mi_X2_11 dX2_init_75 rfl (by decide) (k_Grid (by omega) (W4_j hq rfl)) rfl (by omega) (by omega) (by omega) (Nat.le_of_ble_eq_true rfl) ?_
  refine R4_put (fs1 := [.ref (b0 + (N + 0)), .ref (b0 + (N + 2)), .ref (b0 + (N + 4)), .ref (b0 + (N + 6)), .ref (b0 + (N + 8)), .ref (b0 + (N + 10)), .ref (b0 + (N + 12))]) G hq pb_X2_33 (fun _ => I rfl) dX2_init_78 rfl rfl (Nat.le_of_ble_eq_true rfl) rfl ?_
  exact R4_retv E dX2_init_81 rfl rfl (by omega) (by omega)

set_option maxRecDepth 100000 in
set_option maxHeartbeats 4000000 in
theorem k_Drawing {l : Launch} {cA : Nat → ClassId} {b0 z N q : Nat} {f : Nat → va_E} (hq : q < N) (he : f q = .inr (1, [.null, .null, .null, .null, .null, .null, .int 0, .int 0])) : CB l 1 6 72 yX0_init cX0_init 1 none cA b0 z [.ref (b0 + q)] (wl b0 N f) (w4 b0 N f q (.inr (1, [.ref (b0 + (N + 0)), .ref (b0 + (N + 1)), .ref (b0 + (N + 2)), .ref (b0 + (N + 3)), .ref (b0 + (N + 4)), .ref (b0 + (N + 5)), .int 0, .int 0])) [.inl (cA 0, 12, .inl (fun _ => 0)), .inl (cA 0, 12, .inl (fun _ => 0)), .inl (cA 0, 12, .inl (fun _ => 0)), .inl (cA 0, 12, .inl (fun _ => 0)), .inl (cA 0, 12, .inl (fun _ => 0)), .inl (cA 0, 12, .inl (fun _ => 0))]) none := by
  refine CB.ofBV (L := [some (.ref (b0 + q))]) RX0 (by decide +kernel) rfl (Nat.le_of_ble_eq_true rfl) rfl (fun X hX G I E => ?_)
  subst hX
  rw [w4_start he]
  refine B_aload0 G dX0_init_0 ?_
  refine B_obj G ob_X0_3 dX0_init_1 (by omega) (Nat.le_of_ble_eq_true rfl) ?_
  refine B_aload0 G dX0_init_4 ?_
  refine B_bipush G dX0_init_5 (v := Int32.ofInt (12)) (by decide) ?_
  refine R4_newi (n9 := 12) (m := 0) (L1 := [.inl (cA 0, 12, .inl (fun _ => 0))]) G hq dX0_init_7 rfl (by decide) rfl rfl (by omega) (by omega) ?_
  refine R4_put (fs1 := [.ref (b0 + (N + 0)), .null, .null, .null, .null, .null, .int 0, .int 0]) G hq pb_X0_9 (fun _ => I rfl) dX0_init_9 rfl rfl (Nat.le_of_ble_eq_true rfl) rfl ?_
  refine B_aload0 G dX0_init_12 ?_
  refine B_bipush G dX0_init_13 (v := Int32.ofInt (12)) (by decide) ?_
  refine R4_newi (n9 := 12) (m := 1) (L1 := [.inl (cA 0, 12, .inl (fun _ => 0)), .inl (cA 0, 12, .inl (fun _ => 0))]) G hq dX0_init_15 rfl (by decide) rfl rfl (by omega) (by omega) ?_
  refine R4_put (fs1 := [.ref (b0 + (N + 0)), .ref (b0 + (N + 1)), .null, .null, .null, .null, .int 0, .int 0]) G hq pb_X0_15 (fun _ => I rfl) dX0_init_17 rfl rfl (Nat.le_of_ble_eq_true rfl) rfl ?_
  refine B_aload0 G dX0_init_20 ?_
  refine B_bipush G dX0_init_21 (v := Int32.ofInt (12)) (by decide) ?_
  refine R4_newi (n9 := 12) (m := 2) (L1 := [.inl (cA 0, 12, .inl (fun _ => 0)), .inl (cA 0, 12, .inl (fun _ => 0)), .inl (cA 0, 12, .inl (fun _ => 0))]) G hq dX0_init_23 rfl (by decide) rfl rfl (by omega) (by omega) ?_
  refine R4_put (fs1 := [.ref (b0 + (N + 0)), .ref (b0 + (N + 1)), .ref (b0 + (N + 2)), .null, .null, .null, .int 0, .int 0]) G hq pb_X0_18 (fun _ => I rfl) dX0_init_25 rfl rfl (Nat.le_of_ble_eq_true rfl) rfl ?_
  refine B_aload0 G dX0_init_28 ?_
  refine B_bipush G dX0_init_29 (v := Int32.ofInt (12)) (by decide) ?_
  refine R4_newi (n9 := 12) (m := 3) (L1 := [.inl (cA 0, 12, .inl (fun _ => 0)), .inl (cA 0, 12, .inl (fun _ => 0)), .inl (cA 0, 12, .inl (fun _ => 0)), .inl (cA 0, 12, .inl (fun _ => 0))]) G hq dX0_init_31 rfl (by decide) rfl rfl (by omega) (by omega) ?_
  refine R4_put (fs1 := [.ref (b0 + (N + 0)), .ref (b0 + (N + 1)), .ref (b0 + (N + 2)), .ref (b0 + (N + 3)), .null, .null, .int 0, .int 0]) G hq pb_X0_21 (fun _ => I rfl) dX0_init_33 rfl rfl (Nat.le_of_ble_eq_true rfl) rfl ?_
  refine B_aload0 G dX0_init_36 ?_
  refine B_bipush G dX0_init_37 (v := Int32.ofInt (12)) (by decide) ?_
  refine R4_newi (n9 := 12) (m := 4) (L1 := [.inl (cA 0, 12, .inl (fun _ => 0)), .inl (cA 0, 12, .inl (fun _ => 0)), .inl (cA 0, 12, .inl (fun _ => 0)), .inl (cA 0, 12, .inl (fun _ => 0)), .inl (cA 0, 12, .inl (fun _ => 0))]) G hq dX0_init_39 rfl (by decide) rfl rfl (by omega) (by omega) ?_
  refine R4_put (fs1 := [.ref (b0 + (N + 0)), .ref (b0 + (N + 1)), .ref (b0 + (N + 2)), .ref (b0 + (N + 3)), .ref (b0 + (N + 4)), .null, .int 0, .int 0]) G hq pb_X0_24 (fun _ => I rfl) dX0_init_41 rfl rfl (Nat.le_of_ble_eq_true rfl) rfl ?_
  refine B_aload0 G dX0_init_44 ?_
  refine B_bipush G dX0_init_45 (v := Int32.ofInt (12)) (by decide) ?_
  refine R4_newi (n9 := 12) (m := 5) (L1 := [.inl (cA 0, 12, .inl (fun _ => 0)), .inl (cA 0, 12, .inl (fun _ => 0)), .inl (cA 0, 12, .inl (fun _ => 0)), .inl (cA 0, 12, .inl (fun _ => 0)), .inl (cA 0, 12, .inl (fun _ => 0)), .inl (cA 0, 12, .inl (fun _ => 0))]) G hq dX0_init_47 rfl (by decide) rfl rfl (by omega) (by omega) ?_
  refine R4_put (fs1 := [.ref (b0 + (N + 0)), .ref (b0 + (N + 1)), .ref (b0 + (N + 2)), .ref (b0 + (N + 3)), .ref (b0 + (N + 4)), .ref (b0 + (N + 5)), .int 0, .int 0]) G hq pb_X0_27 (fun _ => I rfl) dX0_init_49 rfl rfl (Nat.le_of_ble_eq_true rfl) rfl ?_
  refine B_aload0 G dX0_init_52 ?_
  refine B_iconst G dX0_init_53 (v := 0) (by decide) ?_
  refine R4_put (fs1 := [.ref (b0 + (N + 0)), .ref (b0 + (N + 1)), .ref (b0 + (N + 2)), .ref (b0 + (N + 3)), .ref (b0 + (N + 4)), .ref (b0 + (N + 5)), .int 0, .int 0]) G hq pb_X0_30 (fun _ => I rfl) dX0_init_54 rfl rfl (Nat.le_of_ble_eq_true rfl) rfl ?_
  refine B_aload0 G dX0_init_57 ?_
  refine B_iconst G dX0_init_58 (v := 0) (by decide) ?_
  refine R4_put (fs1 := [.ref (b0 + (N + 0)), .ref (b0 + (N + 1)), .ref (b0 + (N + 2)), .ref (b0 + (N + 3)), .ref (b0 + (N + 4)), .ref (b0 + (N + 5)), .int 0, .int 0]) G hq pb_X0_34 (fun _ => I rfl) dX0_init_59 rfl rfl (Nat.le_of_ble_eq_true rfl) rfl ?_
  exact R4_retv E dX0_init_62 rfl rfl (by omega) (by omega)

end CTB
