section CTA
variable {l : Launch} {cA : Nat → ClassId} {b0 z N q : Nat} {f : Nat → va_E}
theorem upd_z {i : Nat} : upd (fun _ => (0 : Int32)) i 0 = fun _ => 0 := by
  funext j
  unfold upd
  split <;> rfl
theorem i32_in {i n : Nat} (h : i < n) (hn : n ≤ 5000) : vp_in (Int32.ofInt (i : Int)) n ∧ (Int32.ofInt (i : Int)).toNatClampNeg = i := by
  refine ⟨zi_in ⟨by omega, by omega⟩ hn, ?_⟩
  rw [Int32.toNatClampNeg_ofInt_of_le (by omega) (by omega)]
  omega
theorem i32_le {i n : Nat} (hi : i ≤ 5000) (hn : n ≤ 5000) : Int32.ofInt (n : Int) ≤ Int32.ofInt (i : Int) ↔ n ≤ i := by
  rw [Int32.le_iff_toInt_le, Int32.toInt_ofInt_of_le (by omega) (by omega), Int32.toInt_ofInt_of_le (by omega) (by omega)]
  omega
set_option maxHeartbeats 4000000 in
theorem k_fill {n9 : Nat} {v : Int32} {g : Nat → Int32} (hq : q < N) (he : f q = .inl (cA 0, n9, .inl g)) (hn : n9 ≤ 5000) : CB l 1 0 0 yJ7_fill_53178 cJ7_fill_53178 4 (Option.none : Option Jvm.ClassFile.FieldType) cA b0 z [.ref (b0 + q), .int v] (wl b0 N f) (wl b0 N (up f q (.inl (cA 0, n9, .inl (fun _ => v))))) none := by
  refine CB.ofBV (L := [some (.ref (b0 + q)), some (.int v), none, none]) RJ7 (by decide +kernel) rfl (Nat.le_of_ble_eq_true rfl) rfl (fun X hX G I E => ?_)
  subst hX
  have key : ∀ (m i : Nat) (f : Nat → va_E) (g : Nat → Int32), i + m = n9 → f q = .inl (cA 0, n9, .inl g) → (∀ j, j < i → g j = v) → (∀ (f1 : Nat → va_E) (g1 : Nat → Int32), f1 q = .inl (cA 0, n9, .inl g1) → (∀ j, j < n9 → g1 j = v) → (∀ i, i ≠ q → f1 i = f i) → BV X b0 0 0 20 [some (.ref (b0 + q)), some (.int v), some (.int (Int32.ofInt (n9 : Int))), some (.int (Int32.ofInt (n9 : Int)))] [] (wl b0 N f1)) → BV X b0 0 0 5 [some (.ref (b0 + q)), some (.int v), some (.int (Int32.ofInt (i : Int))), some (.int (Int32.ofInt (n9 : Int)))] [] (wl b0 N f) := by
    intro m
    induction m with
    | zero =>
      intro i f g hm hf hg kk
      obtain rfl : i = n9 := by omega
      refine B_iload2 G dJ7_fill_53178_5 ?_
      refine B_iload3 G dJ7_fill_53178_6 ?_
      refine B_icmpge G dJ7_fill_53178_7 (tgt := 20) (by decide) (fun _ => ?_) (fun h => absurd ((i32_le hn hn).mpr (Nat.le_refl _)) h)
      exact kk f g hf hg (fun _ _ => rfl)
    | succ m ih =>
      intro i f g hm hf hg kk
      refine B_iload2 G dJ7_fill_53178_5 ?_
      refine B_iload3 G dJ7_fill_53178_6 ?_
      refine B_icmpge G dJ7_fill_53178_7 (tgt := 20) (by decide) (fun h => absurd ((i32_le (by omega) hn).mp h) (by omega)) (fun _ => ?_)
      refine B_aload0 G dJ7_fill_53178_10 ?_
      refine B_iload2 G dJ7_fill_53178_11 ?_
      refine B_iload1 G dJ7_fill_53178_12 ?_
      obtain ⟨i1, i2⟩ := i32_in (i := i) (n := n9) (by omega) hn
      refine B_iast G dJ7_fill_53178_13 hq hf i1 ?_
      rw [i2]
      refine B_iinc2 G dJ7_fill_53178_14 (v := Int32.ofInt 1) (by decide) rfl ?_
      refine B_goto G dJ7_fill_53178_17 (tgt := 5) (by decide) ?_
      rw [show Int32.ofInt (i : Int) + Int32.ofInt 1 = Int32.ofInt ((i + 1 : Nat) : Int) by rw [← Int32.ofInt_add]; rfl]
      refine ih (i + 1) _ (upd g i v) (by omega) up_eq (fun j hj => ?_) (fun f1 g1 a1 a2 a3 => kk f1 g1 a1 a2 (fun i hi => (a3 i hi).trans (up_ne hi)))
      unfold upd
      by_cases h : j = i
      · rw [if_pos h]
      · rw [if_neg h]; exact hg j (by omega)
  refine B_iconst G dJ7_fill_53178_0 (v := Int32.ofInt ((0 : Nat) : Int)) (by decide) ?_
  refine B_istore2 G dJ7_fill_53178_1 rfl ?_
  refine B_aload0 G dJ7_fill_53178_2 ?_
  refine B_aleni G dJ7_fill_53178_3 hq he (v := Int32.ofInt (n9 : Int)) Int32.ofInt_eq_ofNat.symm ?_
  refine B_istore3 G dJ7_fill_53178_4 rfl ?_
  refine key n9 0 f g (by omega) he (fun j hj => by omega) (fun f1 g1 a1 a2 a3 => ?_)
  refine BV_eqv (g := up f q (.inl (cA 0, n9, .inl (fun _ => v)))) (fun i hi => ?_) (B_retv E dJ7_fill_53178_20 rfl rfl)
  by_cases h : i = q
  · subst h
    rw [up_eq, a1]
    exact EQ.is a2
  · rw [up_ne h, a3 i h]
    exact EQ.rf
theorem B_max {X : Cxt} {own : String} {cc : ByteArray} {d kc ks k n pc b0 z0 : Nat} {cA0 : Nat → ClassId} {ls : List (Option Value)} {st : List Value} {ws : va_W} (G : BG X own cc d kc ks b0 z0 cA0) {idx : Nat} {x y : Int32} (M : MS own idx yJ9_max_7cf53 cJ9_max_7cf53 2 (Option.some Jvm.ClassFile.FieldType.int) 2) (hd : decode cc pc = .ok (.invokestatic idx, 3)) (h : ¬ x < y) (hk : k ≤ kc) (hn : n ≤ ks) (hst : (st.map fun v => v.category).sum ≤ 8) (h1 : 1 ≤ d) (kk : BV X b0 k n (pc + 3) ls (.int x :: st) ws) : BV X b0 k n pc ls (.int y :: .int x :: st) ws := by
  obtain ⟨p, l, e, R, s, m, args, below, meth, c, D, cA, A, Dp, Q, σ, nL⟩ := X
  obtain ⟨hx, hb, hml, hown, hts, hK, rfl, hb0, hGE, hlk, hfr, hlo, hkc, hks⟩ := G
  intro H locs d0 lr g1 g0 g2 g3 g4
  obtain ⟨M1, M2, M3, M4, -⟩ := M
  refine va_mmax (s := s.setDrawn d0) (x := x) (y := y) hx hb (hml.trans g4.2.1.symm) hown (dr_words hts d0 _ M1) (dr_words hts d0 _ M2) (dr_words hts d0 _ M3) (dr_words hts d0 _ M4) (by omega) (by omega) (by omega) (by omega) hd ?_
  rw [if_neg h]
  exact kk H locs d0 lr g1 g0 g2 g3 g4
theorem k_ac {a : Nat} {ws : va_W} : CB l 1 0 0 yJxa1e45_init_da8c8 cJxa1e45_init_da8c8 1 none cA b0 z [.ref a] ws ws none := by
  refine CB.ofBV (L := [some (.ref a)]) RJxa1e45 (by decide +kernel) rfl (Nat.le_of_ble_eq_true rfl) rfl (fun X hX G I E => ?_)
  subst hX
  refine B_aload0 G dJxa1e45_init_da8c8_0 ?_
  refine B_obj G ob_Jxa1e45_1 dJxa1e45_init_da8c8_1 (by omega) (Nat.le_of_ble_eq_true rfl) ?_
  exact B_retv E dJxa1e45_init_da8c8_4 rfl rfl
theorem k_al {v0 v1 v2 : Value} {L : List va_E} (hq : q < N) : CB l 2 0 0 yJxc12de_init_da8c8 cJxc12de_init_da8c8 1 none cA b0 z [.ref (b0 + q)] (w4 b0 N f q (.inr (0, [v0, v1, v2])) L) (w4 b0 N f q (.inr (0, [.int 0, v1, v2])) L) none := by
  refine CB.ofBV (L := [some (.ref (b0 + q))]) RJxc12de (by decide +kernel) rfl (Nat.le_of_ble_eq_true rfl) rfl (fun X hX G I E => ?_)
  subst hX
  refine B_aload0 G dJxc12de_init_da8c8_0 ?_
  refine B_cI0 (d1 := 1) G mi_Jxc12de_1 dJxc12de_init_da8c8_1 k_ac (by omega) (by omega) (by omega) (Nat.le_of_ble_eq_true rfl) ?_
  refine B_aload0 G dJxc12de_init_da8c8_4 ?_
  refine B_iconst G dJxc12de_init_da8c8_5 (v := 0) (by decide) ?_
  refine R4_put (fs1 := [.int 0, v1, v2]) G hq pb_Jxc12de_7 (fun h => by cases h) dJxc12de_init_da8c8_6 rfl rfl (Nat.le_of_ble_eq_true rfl) rfl ?_
  exact R4_retv E dJxc12de_init_da8c8_9 rfl rfl (by omega) (by omega)
theorem k_list (hq : q < N) (he : f q = .inr (0, [.int 0, .null, .int 0])) : CB l 3 0 0 yJx4a65c_init_da8c8 cJx4a65c_init_da8c8 1 none cA b0 z [.ref (b0 + q)] (wl b0 N f) (w4 b0 N f q (.inr (0, [.int 0, .ref z, .int 0])) []) none := by
  refine CB.ofBV (L := [some (.ref (b0 + q))]) RJx4a65c (by decide +kernel) rfl (Nat.le_of_ble_eq_true rfl) rfl (fun X hX G I E => ?_)
  subst hX
  rw [w4_start he]
  refine B_aload0 G dJx4a65c_init_da8c8_0 ?_
  refine R4_cIq (d1 := 2) G mi_Jx4a65c_1 dJx4a65c_init_da8c8_1 (k_al hq) (by omega) (by omega) (by omega) (Nat.le_of_ble_eq_true rfl) ?_
  refine B_aload0 G dJx4a65c_init_da8c8_4 ?_
  refine B_getsz G fz_39 dJx4a65c_init_da8c8_5 ?_
  refine R4_put (fs1 := [.int 0, .ref z, .int 0]) G hq pb_Jx4a65c_9 (fun h => by cases h) dJx4a65c_init_da8c8_8 rfl rfl (Nat.le_of_ble_eq_true rfl) rfl ?_
  exact R4_retv E dJx4a65c_init_da8c8_11 rfl rfl (by omega) (by omega)
theorem R4_reta {X : Cxt} {cc : ByteArray} {kc ks k n pc M : Nat} {ls : List (Option Value)} {f1 f2 : Nat → va_E} {rt : Option FieldType} {a : Nat} {ty : FieldType} (E : EB X cc rt kc ks b0 (wl b0 M f2) (some (.ref a))) (hd : decode cc pc = .ok (.areturn, 1)) (hr : rt = some (.array ty)) (he : ∀ i, i < M → f1 i = f2 i) (h1 : k ≤ kc) (h2 : n ≤ ks) : BV X b0 k n pc ls [.ref a] (wl b0 M f1) := by
  rw [wl_eq he]
  exact B_reta E hd hr h1 h2
set_option maxHeartbeats 4000000 in
theorem k_grow2 {v0 v2 : Value} {c : Int32} (hq : q < N) (he : f q = .inr (0, [v0, .ref z, v2])) (hc : ¬ (10 : Int32) < c) : CB l 2 1 10 yJx4a65c_grow_92f84 cJx4a65c_grow_92f84 4 (Option.some (Jvm.ClassFile.FieldType.array (Jvm.ClassFile.FieldType.object "java/lang/Object"))) cA b0 z [.ref (b0 + q), .int c] (wl b0 N f) (w4 b0 N f q (.inr (0, [v0, .ref (b0 + (N + 0)), v2])) [.inl (cA 3, 10, .inr (.inr (.inr (.inr (fun _ => none)))))]) (some (.ref (b0 + (N + 0)))) := by
  refine CB.ofBV (L := [some (.ref (b0 + q)), some (.int c), none, none]) RJx4a65c (by decide +kernel) rfl (Nat.le_of_ble_eq_true rfl) rfl (fun X hX G I E => ?_)
  subst hX
  rw [w4_start he]
  refine B_aload0 G dJx4a65c_grow_92f84_0 ?_
  refine R4_get G hq fl_Jx4a65c_9 dJx4a65c_grow_92f84_1 rfl ?_
  refine B_alenz G dJx4a65c_grow_92f84_4 ?_
  refine B_istore2 G dJx4a65c_grow_92f84_5 rfl ?_
  refine B_iload2 G dJx4a65c_grow_92f84_6 ?_
  refine B_ifgt G dJx4a65c_grow_92f84_7 (tgt := 20) (by decide) (fun h => absurd h (by decide)) (fun _ => ?_)
  refine B_aload0 G dJx4a65c_grow_92f84_10 ?_
  refine R4_get G hq fl_Jx4a65c_9 dJx4a65c_grow_92f84_11 rfl ?_
  refine B_getsz G fz_39 dJx4a65c_grow_92f84_14 ?_
  refine B_acmpeq G dJx4a65c_grow_92f84_17 (tgt := 45) (by decide) ?_
  refine B_aload0 G dJx4a65c_grow_92f84_45 ?_
  refine B_bipush G dJx4a65c_grow_92f84_46 (v := Int32.ofInt 10) (by decide) ?_
  refine B_iload1 G dJx4a65c_grow_92f84_48 ?_
  refine B_max G m_Jx4a65c_79 dJx4a65c_grow_92f84_49 hc (by omega) (by omega) (Nat.le_of_ble_eq_true rfl) (by omega) ?_
  refine R4_newq (n9 := 10) (m := 0) (L1 := [.inl (cA 3, 10, .inr (.inr (.inr (.inr (fun _ => none)))))]) G hq cl_obj dJx4a65c_grow_92f84_52 rfl (by decide) rfl rfl (by omega) (by omega) ?_
  refine B_dupx1 G dJx4a65c_grow_92f84_55 rfl rfl ?_
  refine R4_put (fs1 := [v0, .ref (b0 + (N + 0)), v2]) G hq pb_Jx4a65c_9 (fun h => by cases h) dJx4a65c_grow_92f84_56 rfl rfl (Nat.le_of_ble_eq_true rfl) rfl ?_
  exact B_reta E dJx4a65c_grow_92f84_59 rfl
theorem k_grow {v0 : Value} (hq : q < N) (he : f q = .inr (0, [v0, .ref z, .int 0])) : CB l 3 1 10 yJx4a65c_grow_d5877 cJx4a65c_grow_d5877 1 (Option.some (Jvm.ClassFile.FieldType.array (Jvm.ClassFile.FieldType.object "java/lang/Object"))) cA b0 z [.ref (b0 + q)] (wl b0 N f) (w4 b0 N f q (.inr (0, [v0, .ref (b0 + (N + 0)), .int 0])) [.inl (cA 3, 10, .inr (.inr (.inr (.inr (fun _ => none)))))]) (some (.ref (b0 + (N + 0)))) := by
  refine CB.ofBV (L := [some (.ref (b0 + q))]) RJx4a65c (by decide +kernel) rfl (Nat.le_of_ble_eq_true rfl) rfl (fun X hX G I E => ?_)
  subst hX
  refine B_aload0 G dJx4a65c_grow_d5877_0 ?_
  refine B_aload0 G dJx4a65c_grow_d5877_1 ?_
  refine B_get G fl_Jx4a65c_48 dJx4a65c_grow_d5877_2 hq he rfl ?_
  refine B_iconst G dJx4a65c_grow_d5877_5 (v := 1) (by decide) ?_
  refine B_iadd G dJx4a65c_grow_d5877_6 ?_
  refine B_cV1 (d1 := 2) G m_Jx4a65c_69 dJx4a65c_grow_d5877_7 hq he (k_grow2 hq he (by decide)) (by omega) (by omega) (by omega) (Nat.le_of_ble_eq_true rfl) ?_
  exact B_reta E dJx4a65c_grow_d5877_10 rfl
set_option maxHeartbeats 4000000 in
theorem k_add1i {v0 : Value} {vs : List Value} {x : Nat} (hq : q < N) (hx : x < N) (hxq : x ≠ q) (he : f q = .inr (0, [v0, .ref z, .int 0])) (hx5 : f x = .inr (5, vs)) : CB l 4 1 10 yJx4a65c_add_72be8 cJx4a65c_add_72be8 4 (Option.none : Option Jvm.ClassFile.FieldType) cA b0 z [.ref (b0 + q), .ref (b0 + x), .ref z, .int 0] (wl b0 N f) (w4 b0 N f q (.inr (0, [v0, .ref (b0 + (N + 0)), .int 1])) [.inl (cA 3, 10, .inr (.inr (.inr (.inr (va_up (fun _ => none) 0 (some (b0 + x)))))))]) none := by
  refine CB.ofBV (L := [some (.ref (b0 + q)), some (.ref (b0 + x)), some (.ref z), some (.int 0)]) RJx4a65c (by decide +kernel) rfl (Nat.le_of_ble_eq_true rfl) rfl (fun X hX G I E => ?_)
  subst hX
  refine B_iload3 G dJx4a65c_add_72be8_0 ?_
  refine B_aload2 G dJx4a65c_add_72be8_1 ?_
  refine B_alenz G dJx4a65c_add_72be8_2 ?_
  refine B_icmpne G dJx4a65c_add_72be8_3 (tgt := 11) (by decide) (fun h => absurd rfl h) (fun _ => ?_)
  refine B_aload0 G dJx4a65c_add_72be8_6 ?_
  refine B_cV0 (d1 := 3) (kc1 := 1) (ks1 := 10) G m_Jx4a65c_129 dJx4a65c_add_72be8_7 hq he (k_grow hq he) (by omega) (by omega) (by omega) (Nat.le_of_ble_eq_true rfl) ?_
  refine B_astore2 G dJx4a65c_add_72be8_10 rfl ?_
  refine B_aload2 G dJx4a65c_add_72be8_11 ?_
  refine B_iload3 G dJx4a65c_add_72be8_12 ?_
  refine B_aload1 G dJx4a65c_add_72be8_13 ?_
  refine B_aast (q := N + 0) (x := x) (vs := vs) G dJx4a65c_add_72be8_14 (by show N + 0 < N + 1; omega) (W4_j hq rfl) (by show x < N + 1; omega) (by rw [W4_f hx hxq]; exact hx5) (N := 10) (by unfold vp_in; decide) ?_
  rw [W4_upj hq (Nat.le_of_ble_eq_true rfl)]
  show BV X _ _ _ _ _ _ (w4 b0 N f q _ [.inl (cA 3, 10, .inr (.inr (.inr (.inr (va_up (fun _ => none) 0 (some (b0 + x)))))))])
  refine B_aload0 G dJx4a65c_add_72be8_15 ?_
  refine B_iload3 G dJx4a65c_add_72be8_16 ?_
  refine B_iconst G dJx4a65c_add_72be8_17 (v := 1) (by decide) ?_
  refine B_iadd G dJx4a65c_add_72be8_18 ?_
  rw [show (0 : Int32) + 1 = 1 by decide]
  refine R4_put (fs1 := [v0, .ref (b0 + (N + 0)), .int 1]) G hq pb_Jx4a65c_48 (fun h => by cases h) dJx4a65c_add_72be8_19 rfl rfl (Nat.le_of_ble_eq_true rfl) rfl ?_
  exact R4_retv E dJx4a65c_add_72be8_22 rfl rfl (by omega) (by omega)
theorem W4_up {Q Q1 : va_E} {L : List va_E} : W4 N (up f q Q1) q Q L = W4 N f q Q L := by
  funext i
  unfold W4
  by_cases h : i = q
  · rw [if_pos h, if_pos h]
  · rw [if_neg h, if_neg h, up_ne h]
set_option maxHeartbeats 4000000 in
theorem k_add1 {vs : List Value} {x : Nat} (hq : q < N) (hx : x < N) (hxq : x ≠ q) (he : f q = .inr (0, [.int 0, .ref z, .int 0])) (hx5 : f x = .inr (5, vs)) : CB l 5 1 10 yJx4a65c_add_9ea2d cJx4a65c_add_9ea2d 2 (Option.some Jvm.ClassFile.FieldType.boolean) cA b0 z [.ref (b0 + q), .ref (b0 + x)] (wl b0 N f) (w4 b0 N f q (.inr (0, [.int 1, .ref (b0 + (N + 0)), .int 1])) [.inl (cA 3, 10, .inr (.inr (.inr (.inr (va_up (fun _ => none) 0 (some (b0 + x)))))))]) (some (.int 1)) := by
  refine CB.ofBV (L := [some (.ref (b0 + q)), some (.ref (b0 + x))]) RJx4a65c (by decide +kernel) rfl (Nat.le_of_ble_eq_true rfl) rfl (fun X hX G I E => ?_)
  subst hX
  refine B_aload0 G dJx4a65c_add_9ea2d_0 ?_
  refine B_dup G dJx4a65c_add_9ea2d_1 rfl ?_
  refine B_get G fl_Jx4a65c_63 dJx4a65c_add_9ea2d_2 hq he rfl ?_
  refine B_iconst G dJx4a65c_add_9ea2d_5 (v := 1) (by decide) ?_
  refine B_iadd G dJx4a65c_add_9ea2d_6 ?_
  rw [show (0 : Int32) + 1 = 1 by decide]
  refine B_put G pb_Jx4a65c_63 (fun h => by cases h) dJx4a65c_add_9ea2d_7 hq he rfl rfl (Nat.le_of_ble_eq_true rfl) ?_
  have he1 : up f q (.inr (0, List.set [.int 0, .ref z, .int 0] 0 (.int 1))) q = .inr (0, [.int 1, .ref z, .int 0]) := up_eq
  refine B_aload0 G dJx4a65c_add_9ea2d_10 ?_
  refine B_aload1 G dJx4a65c_add_9ea2d_11 ?_
  refine B_aload0 G dJx4a65c_add_9ea2d_12 ?_
  refine B_get G fl_Jx4a65c_9 dJx4a65c_add_9ea2d_13 hq he1 rfl ?_
  refine B_aload0 G dJx4a65c_add_9ea2d_16 ?_
  refine B_get G fl_Jx4a65c_48 dJx4a65c_add_9ea2d_17 hq he1 rfl ?_
  refine B_cV3 (d1 := 4) G m_Jx4a65c_131 dJx4a65c_add_9ea2d_20 hq he1 (k_add1i hq hx hxq he1 ((up_ne hxq).trans hx5)) (by omega) (by omega) (by omega) (Nat.le_of_ble_eq_true rfl) ?_
  unfold w4
  rw [W4_up]
  refine B_iconst G dJx4a65c_add_9ea2d_23 (v := 1) (by decide) ?_
  exact B_reti E dJx4a65c_add_9ea2d_24 rfl rfl
set_option maxHeartbeats 4000000 in
theorem k_addi {v0 : Value} {vs : List Value} {x e : Nat} {s s1 : Int32} {g : Nat → Option Nat} (hq : q < N) (hx : x < N) (hen : e < N) (heq : e ≠ q) (he : f q = .inr (0, [v0, .ref (b0 + e), .int s])) (hx5 : f x = .inr (5, vs)) (hE : f e = .inl (cA 3, 10, .inr (.inr (.inr (.inr g))))) (hs : s + 1 = s1) (hne : ¬ s = 10) (hin : vp_in s 10) : CB l 4 0 0 yJx4a65c_add_72be8 cJx4a65c_add_72be8 4 (Option.none : Option Jvm.ClassFile.FieldType) cA b0 z [.ref (b0 + q), .ref (b0 + x), .ref (b0 + e), .int s] (wl b0 N f) (wl b0 N (up (up f e (.inl (cA 3, 10, .inr (.inr (.inr (.inr (va_up g s.toNatClampNeg (some (b0 + x))))))))) q (.inr (0, [v0, .ref (b0 + e), .int s1])))) none := by
  refine CB.ofBV (L := [some (.ref (b0 + q)), some (.ref (b0 + x)), some (.ref (b0 + e)), some (.int s)]) RJx4a65c (by decide +kernel) rfl (Nat.le_of_ble_eq_true rfl) rfl (fun X hX G I E => ?_)
  subst hX
  refine B_iload3 G dJx4a65c_add_72be8_0 ?_
  refine B_aload2 G dJx4a65c_add_72be8_1 ?_
  refine B_alenq G dJx4a65c_add_72be8_2 hen hE (v := 10) (by decide) ?_
  refine B_icmpne G dJx4a65c_add_72be8_3 (tgt := 11) (by decide) (fun _ => ?_) (fun h => absurd h hne)
  refine B_aload2 G dJx4a65c_add_72be8_11 ?_
  refine B_iload3 G dJx4a65c_add_72be8_12 ?_
  refine B_aload1 G dJx4a65c_add_72be8_13 ?_
  refine B_aast G dJx4a65c_add_72be8_14 hen hE hx hx5 hin ?_
  refine B_aload0 G dJx4a65c_add_72be8_15 ?_
  refine B_iload3 G dJx4a65c_add_72be8_16 ?_
  refine B_iconst G dJx4a65c_add_72be8_17 (v := 1) (by decide) ?_
  refine B_iadd G dJx4a65c_add_72be8_18 ?_
  rw [hs]
  refine B_put G pb_Jx4a65c_48 (fun h => by cases h) dJx4a65c_add_72be8_19 hq ((up_ne (Ne.symm heq)).trans he) rfl rfl (Nat.le_of_ble_eq_true rfl) ?_
  exact B_retv E dJx4a65c_add_72be8_22 rfl rfl
theorem up_up {Q Q1 : va_E} : up (up f q Q1) q Q = up f q Q := by
  funext i
  unfold up
  by_cases h : i = q
  · rw [if_pos h, if_pos h]
  · rw [if_neg h, if_neg h, if_neg h]
theorem up_co {Q Q1 : va_E} {e : Nat} (h : e ≠ q) : up (up f q Q) e Q1 = up (up f e Q1) q Q := by
  funext i
  unfold up
  by_cases h1 : i = q
  · subst h1
    rw [if_neg (Ne.symm h), if_pos rfl, if_pos rfl]
  · rw [if_neg h1, if_neg h1]
set_option maxHeartbeats 4000000 in
theorem k_add {vs : List Value} {x e : Nat} {m m1 s s1 : Int32} {g : Nat → Option Nat} (hq : q < N) (hx : x < N) (hen : e < N) (heq : e ≠ q) (hxq : x ≠ q) (he : f q = .inr (0, [.int m, .ref (b0 + e), .int s])) (hx5 : f x = .inr (5, vs)) (hE : f e = .inl (cA 3, 10, .inr (.inr (.inr (.inr g))))) (hm : m + 1 = m1) (hs : s + 1 = s1) (hne : ¬ s = 10) (hin : vp_in s 10) : CB l 5 0 0 yJx4a65c_add_9ea2d cJx4a65c_add_9ea2d 2 (Option.some Jvm.ClassFile.FieldType.boolean) cA b0 z [.ref (b0 + q), .ref (b0 + x)] (wl b0 N f) (wl b0 N (up (up f e (.inl (cA 3, 10, .inr (.inr (.inr (.inr (va_up g s.toNatClampNeg (some (b0 + x))))))))) q (.inr (0, [.int m1, .ref (b0 + e), .int s1])))) (some (.int 1)) := by
  refine CB.ofBV (L := [some (.ref (b0 + q)), some (.ref (b0 + x))]) RJx4a65c (by decide +kernel) rfl (Nat.le_of_ble_eq_true rfl) rfl (fun X hX G I E => ?_)
  subst hX
  refine B_aload0 G dJx4a65c_add_9ea2d_0 ?_
  refine B_dup G dJx4a65c_add_9ea2d_1 rfl ?_
  refine B_get G fl_Jx4a65c_63 dJx4a65c_add_9ea2d_2 hq he rfl ?_
  refine B_iconst G dJx4a65c_add_9ea2d_5 (v := 1) (by decide) ?_
  refine B_iadd G dJx4a65c_add_9ea2d_6 ?_
  rw [hm]
  refine B_put G pb_Jx4a65c_63 (fun h => by cases h) dJx4a65c_add_9ea2d_7 hq he rfl rfl (Nat.le_of_ble_eq_true rfl) ?_
  have he1 : up f q (.inr (0, List.set [.int m, .ref (b0 + e), .int s] 0 (.int m1))) q = .inr (0, [.int m1, .ref (b0 + e), .int s]) := up_eq
  refine B_aload0 G dJx4a65c_add_9ea2d_10 ?_
  refine B_aload1 G dJx4a65c_add_9ea2d_11 ?_
  refine B_aload0 G dJx4a65c_add_9ea2d_12 ?_
  refine B_get G fl_Jx4a65c_9 dJx4a65c_add_9ea2d_13 hq he1 rfl ?_
  refine B_aload0 G dJx4a65c_add_9ea2d_16 ?_
  refine B_get G fl_Jx4a65c_48 dJx4a65c_add_9ea2d_17 hq he1 rfl ?_
  refine B_cV3 (d1 := 4) G m_Jx4a65c_131 dJx4a65c_add_9ea2d_20 hq he1 (k_addi hq hx hen heq he1 ((up_ne hxq).trans hx5) ((up_ne heq).trans hE) hs hne hin) (by omega) (by omega) (by omega) (Nat.le_of_ble_eq_true rfl) ?_
  rw [up_co heq, up_up]
  refine B_iconst G dJx4a65c_add_9ea2d_23 (v := 1) (by decide) ?_
  exact B_reti E dJx4a65c_add_9ea2d_24 rfl rfl
variable {X : Cxt} {own : String} {cc : ByteArray} {d kc ks k n pc z0 : Nat} {ls : List (Option Value)} {st : List Value} {cA0 : Nat → ClassId} {Q : va_E} {L L1 : List va_E}
/-- a first state is added to a list among the new cells -/
theorem R4_cadd1 (G : BG X own cc d kc ks b0 z0 cA0) (hq : q < N) {idx j x m : Nat} {vs : List Value} (F : MV own idx 0 yJx4a65c_add_9ea2d cJx4a65c_add_9ea2d 2 (Option.some Jvm.ClassFile.FieldType.boolean) 1) (hd : decode cc pc = .ok (.invokevirtual idx, 3)) (hm : L.length = m) (hj : j < m) (hxm : x < m) (hxj : x ≠ j) (hl : L[j]? = some (.inr (0, [.int 0, .ref z0, .int 0]))) (hx5 : L[x]? = some (.inr (5, vs))) (hL : L.set j (.inr (0, [.int 1, .ref (b0 + (N + m)), .int 1])) ++ [.inl (cA0 3, 10, .inr (.inr (.inr (.inr (va_up (fun _ => none) 0 (some (b0 + (N + x))))))))] = L1) (hdd : 6 ≤ d) (hk : k + 1 ≤ kc) (hn : n + 10 ≤ ks) (hst : (st.map fun v => v.category).sum ≤ 8) (kk : BV X b0 (k + 1) (n + 10) (pc + 3) ls (.int 1 :: st) (w4 b0 N f q Q L1)) : BV X b0 k n pc ls (.ref (b0 + (N + x)) :: .ref (b0 + (N + j)) :: st) (w4 b0 N f q Q L) := by
  subst hm; subst hL
  have hC := k_add1 (l := X.2.1) (cA := cA0) (b0 := b0) (z := z0) (N := N + L.length) (q := N + j) (f := W4 N f q Q L) (x := N + x) (vs := vs) (by omega) (by omega) (by omega) (W4_j hq hl) (W4_j hq hx5)
  rw [w4_call hq hj] at hC
  exact B_cV1 (d1 := 5) G F hd (by omega) (W4_j hq hl) hC hdd hk hn hst kk
/-- a further state is added -/
theorem R4_cadd (G : BG X own cc d kc ks b0 z0 cA0) (hq : q < N) {idx j x e m : Nat} {vs : List Value} {g : Nat → Option Nat} {mc m1 s s1 : Int32} (F : MV own idx 0 yJx4a65c_add_9ea2d cJx4a65c_add_9ea2d 2 (Option.some Jvm.ClassFile.FieldType.boolean) 1) (hd : decode cc pc = .ok (.invokevirtual idx, 3)) (hm : L.length = m) (hj : j < m) (hxm : x < m) (hem : e < m) (hxj : x ≠ j) (hej : e ≠ j) (hl : L[j]? = some (.inr (0, [.int mc, .ref (b0 + (N + e)), .int s]))) (hx5 : L[x]? = some (.inr (5, vs))) (hE : L[e]? = some (.inl (cA0 3, 10, .inr (.inr (.inr (.inr g)))))) (h1 : mc + 1 = m1) (h2 : s + 1 = s1) (hne : ¬ s = 10) (hin : vp_in s 10) (hL : (L.set e (.inl (cA0 3, 10, .inr (.inr (.inr (.inr (va_up g s.toNatClampNeg (some (b0 + (N + x)))))))))).set j (.inr (0, [.int m1, .ref (b0 + (N + e)), .int s1])) = L1) (hdd : 6 ≤ d) (hk : k ≤ kc) (hn : n ≤ ks) (hst : (st.map fun v => v.category).sum ≤ 8) (kk : BV X b0 k n (pc + 3) ls (.int 1 :: st) (w4 b0 N f q Q L1)) : BV X b0 k n pc ls (.ref (b0 + (N + x)) :: .ref (b0 + (N + j)) :: st) (w4 b0 N f q Q L) := by
  subst hm; subst hL
  have hC := k_add (l := X.2.1) (cA := cA0) (b0 := b0) (z := z0) (N := N + L.length) (q := N + j) (f := W4 N f q Q L) (x := N + x) (e := N + e) (vs := vs) (g := g) (by omega) (by omega) (by omega) (by omega) (by omega) (W4_j hq hl) (W4_j hq hx5) (W4_j hq hE) h1 h2 hne hin
  rw [W4_upj hq hem, W4_upj hq (by rw [List.length_set]; exact hj)] at hC
  have e1 : wl b0 (N + L.length) (W4 N f q Q ((L.set e (.inl (cA0 3, 10, .inr (.inr (.inr (.inr (va_up g s.toNatClampNeg (some (b0 + (N + x)))))))))).set j (.inr (0, [.int m1, .ref (b0 + (N + e)), .int s1])))) = w4 b0 N f q Q ((L.set e (.inl (cA0 3, 10, .inr (.inr (.inr (.inr (va_up g s.toNatClampNeg (some (b0 + (N + x)))))))))).set j (.inr (0, [.int m1, .ref (b0 + (N + e)), .int s1]))) := by
    unfold w4
    rw [List.length_set, List.length_set]
  rw [e1] at hC
  exact B_cV1 (d1 := 5) G F hd (by omega) (W4_j hq hl) hC hdd hk hn hst kk
end CTA
