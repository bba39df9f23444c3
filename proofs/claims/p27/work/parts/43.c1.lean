section C1
section
variable {X : Cxt} {own : String} {cc : ByteArray} {d kc ks k n pc : Nat} {ls : List (Option Value)} {st : List Value} {h : Hp}
theorem V_iushr_ (G : Gd X own cc d kc ks) {x y : Int32} (hd : decode cc pc = .ok (.iushr, 1)) (kk : V X k n (pc + 1) ls (.int ((x.toUInt32 >>> (y.toUInt32 &&& Int32.toUInt32 31)).toInt32) :: st) h) : V X k n pc ls (.int y :: .int x :: st) h := by
  obtain ⟨p, l, e, R, s, m, args, below, meth, c, D, cA, A, Dp, Q, σ, nL⟩ := X
  obtain ⟨hx, hb, hml, hown, hts, hK, hadr, hA, hGE, hlk, hfr, hlo, hkc, hks⟩ := G
  intro H locs d0 lr g1 g2 g3 g4
  exact lv_iushr hx hb hd rfl (kk H locs d0 lr g1 g2 g3 g4)
end
section
variable {X : Cxt} {own : String} {cc : ByteArray} {d kc ks k n pc : Nat} {ls : List (Option Value)} {st : List Value} {h : Hp}
theorem V_mmin (G : Gd X own cc d kc ks) {idx : Nat} {a b : Int} (M : MS own idx yJ9_min_7cf53 cJ9_min_7cf53 2 (Option.some Jvm.ClassFile.FieldType.int) 2) (hd : decode cc pc = .ok (.invokestatic idx, 3)) (ha : inr a) (hb2 : inr b) (hk : k ≤ kc) (hn : n ≤ ks) (hst : (st.map fun v => v.category).sum ≤ 8) (h1 : 1 ≤ d) (kk : V X k n (pc + 3) ls (.int (Int32.ofInt (if b < a then b else a)) :: st) h) : V X k n pc ls (.int (Int32.ofInt b) :: .int (Int32.ofInt a) :: st) h := by
  obtain ⟨p, l, e, R, s, m, args, below, meth, c, D, cA, A, Dp, Q, σ, nL⟩ := X
  obtain ⟨hx, hb, hml, hown, hts, hK, hadr, hA, hGE, hlk, hfr, hlo, hkc, hks⟩ := G
  intro H locs d0 lr g1 g2 g3 g4
  obtain ⟨M1, M2, M3, M4, -⟩ := M
  refine va_mmin (s := s.setDrawn d0) (x := Int32.ofInt a) (y := Int32.ofInt b) hx hb (hml.trans g4.2.1.symm) hown (dr_words hts d0 _ M1) (dr_words hts d0 _ M2) (dr_words hts d0 _ M3) (dr_words hts d0 _ M4) (by omega) (by have e : ((st.map (vm σ)).map fun v => v.category) = st.map fun v => v.category := (by simp [vm_cat]); rw [e]; omega) (by omega) (by omega) hd ?_
  have q := kk H locs d0 lr g1 g2 g3 g4
  rw [show Int32.ofInt (if b < a then b else a) = if Int32.ofInt b < Int32.ofInt a then Int32.ofInt b else Int32.ofInt a by
    by_cases z : b < a
    · rw [if_pos z, if_pos ((zi_lt hb2 ha).mpr z)]
    · rw [if_neg z, if_neg (fun y => z ((zi_lt hb2 ha).mp y))]] at q
  exact q
end
section
variable {X : Cxt} {own : String} {cc : ByteArray} {d kc ks k n pc : Nat} {ls : List (Option Value)} {st : List Value} {h : Hp}
theorem V_mmax (G : Gd X own cc d kc ks) {idx : Nat} {a b : Int} (M : MS own idx yJ9_max_7cf53 cJ9_max_7cf53 2 (Option.some Jvm.ClassFile.FieldType.int) 2) (hd : decode cc pc = .ok (.invokestatic idx, 3)) (ha : inr a) (hb2 : inr b) (hk : k ≤ kc) (hn : n ≤ ks) (hst : (st.map fun v => v.category).sum ≤ 8) (h1 : 1 ≤ d) (kk : V X k n (pc + 3) ls (.int (Int32.ofInt (if a < b then b else a)) :: st) h) : V X k n pc ls (.int (Int32.ofInt b) :: .int (Int32.ofInt a) :: st) h := by
  obtain ⟨p, l, e, R, s, m, args, below, meth, c, D, cA, A, Dp, Q, σ, nL⟩ := X
  obtain ⟨hx, hb, hml, hown, hts, hK, hadr, hA, hGE, hlk, hfr, hlo, hkc, hks⟩ := G
  intro H locs d0 lr g1 g2 g3 g4
  obtain ⟨M1, M2, M3, M4, -⟩ := M
  refine va_mmax (s := s.setDrawn d0) (x := Int32.ofInt a) (y := Int32.ofInt b) hx hb (hml.trans g4.2.1.symm) hown (dr_words hts d0 _ M1) (dr_words hts d0 _ M2) (dr_words hts d0 _ M3) (dr_words hts d0 _ M4) (by omega) (by have e : ((st.map (vm σ)).map fun v => v.category) = st.map fun v => v.category := (by simp [vm_cat]); rw [e]; omega) (by omega) (by omega) hd ?_
  have q := kk H locs d0 lr g1 g2 g3 g4
  rw [show Int32.ofInt (if a < b then b else a) = if Int32.ofInt a < Int32.ofInt b then Int32.ofInt b else Int32.ofInt a by
    by_cases z : a < b
    · rw [if_pos z, if_pos ((zi_lt ha hb2).mpr z)]
    · rw [if_neg z, if_neg (fun y => z ((zi_lt ha hb2).mp y))]] at q
  exact q
end
set_option maxRecDepth 100000 in
set_option maxHeartbeats 1000000 in
theorem c_J7_fill_53178 {l : Launch} {d : Nat} {h : Hp} (r : Rg h) {q0 : Nat} (hq0 : q0 < NN) (hs0 : SH q0 = .inr (0, 12)) {v : Int} (hv : inr v) (hd : 1 ≤ d := by omega) : CP l d 0 0 yJ7_fill_53178 cJ7_fill_53178 4 (Option.none : Option Jvm.ClassFile.FieldType) [.ref q0, iv v] h (pV fun h1 => eqx (fun a _ => a == q0) h h1 ∧ Rg h1 ∧ ∀ j, 0 ≤ j → j < 12 → hI h1 q0 j = v) := by
  refine CP.ofV (L := [some (.ref q0), some (.int (Int32.ofInt v)), none, none]) RJ7 (by decide +kernel) rfl (Nat.le_of_ble_eq_true rfl) rfl (fun X hX G E => ?_)
  subst hX
  have lp : ∀ (m : Nat) (k : Int) (f : Hp), k + m = 12 → 0 ≤ k → Rg f → eqx (fun a _ => a == q0) h f → (∀ j : Int, 0 ≤ j → j < k → hI f q0 j = v) → V X 0 0 5 [some (.ref q0), some (.int (Int32.ofInt v)), some (.int (Int32.ofInt k)), some (.int (Int32.ofInt 12))] [] f := by
    intro m
    induction m with
    | zero =>
      intro k f hm_ hk0 r1 ef hf
      refine V_iload2 G dJ7_fill_53178_5 ?_
      refine V_iload3 G dJ7_fill_53178_6 ?_
      refine V_icmpge G dJ7_fill_53178_7 (tgt := 20) (by decide) (by first | exact r _ _ | assumption | exact ⟨by omega, by omega⟩) (by first | exact r _ _ | assumption | exact ⟨by omega, by omega⟩) (fun c_7 => ?_) (fun c_7 => ?_)
      ·
        exact V_retv E dJ7_fill_53178_20 rfl ⟨rfl, ⟨ef, r1, fun j j1 j2 => hf j j1 (by omega)⟩⟩
      · omega
    | succ m ih =>
      intro k f hm_ hk0 r1 ef hf
      refine V_iload2 G dJ7_fill_53178_5 ?_
      refine V_iload3 G dJ7_fill_53178_6 ?_
      refine V_icmpge G dJ7_fill_53178_7 (tgt := 20) (by decide) (by first | exact r _ _ | assumption | exact ⟨by omega, by omega⟩) (by first | exact r _ _ | assumption | exact ⟨by omega, by omega⟩) (fun c_7 => ?_) (fun c_7 => ?_)
      · omega
      ·
        refine V_aload0 G dJ7_fill_53178_10 ?_
        refine V_iload2 G dJ7_fill_53178_11 ?_
        refine V_iload1 G dJ7_fill_53178_12 ?_
        refine V_iast G dJ7_fill_53178_13 (by first | decide | assumption) (by first | rfl | assumption) (by decide) ⟨by omega, by omega⟩ ?_
        refine V_iinc2 G dJ7_fill_53178_14 rfl ?_
        refine V_goto G dJ7_fill_53178_17 (tgt := 5) (by decide) ?_
        exact ih (k + 1) _ (by omega) (by omega) (r1.sI hv) (ef.st (by simp)) (fun j j1 j2 => by
          rw [hI_sI]
          by_cases e : j = k
          · rw [if_pos ⟨rfl, e⟩]
          · rw [if_neg (fun z => e z.2)]; exact hf j j1 (by omega))
  refine V_iconst G dJ7_fill_53178_0 ?_
  refine V_istore2 G dJ7_fill_53178_1 rfl ?_
  refine V_aload0 G dJ7_fill_53178_2 ?_
  refine V_alen G dJ7_fill_53178_3 (by first | decide | assumption) (by first | rfl | assumption) (by decide) rfl ?_
  refine V_istore3 G dJ7_fill_53178_4 rfl ?_
  exact lp 12 0 _ (by omega) (by omega) r eqx.rf (fun j j1 j2 => by omega)


/-- a State's places: the object, its kinds, its fixed heads -/
def isSt (q : Nat) : Prop := q < NN ∧ q + 1 < NN ∧ q + 2 < NN ∧ SH q = .inl 5 ∧ RF q 0 = some (q + 1) ∧ RF q 1 = some (q + 2) ∧ SH (q + 1) = .inr (0, 12) ∧ SH (q + 2) = .inr (0, 12)
theorem isSt_all : isSt 1 ∧ isSt 38 ∧ isSt 47 ∧ isSt 51 ∧ isSt 54 ∧ isSt 57 ∧ isSt 60 ∧ isSt 63 ∧ isSt 68 ∧ isSt 72 := by
  unfold isSt
  repeat' apply And.intro
  all_goals first | rfl | decide
def kdC (n : Int) (f : Int → Int) (w : Int) : Int := if 0 ≤ w ∧ w < n then f w else -1
def fxC (n : Int) (f : Int → Int) (w : Int) : Int := if 0 ≤ w ∧ w < n then f w else -2

set_option maxRecDepth 100000 in
set_option maxHeartbeats 1000000 in
theorem c_X4_size {l : Launch} {d : Nat} {h : Hp} {q : Nat} (hq : isSt q) (hd : 1 ≤ d := by omega) : CP l d 0 0 yX4_size cX4_size 1 (Option.some Jvm.ClassFile.FieldType.int) [.ref q] h (pI fun x h1 => x = hI h q 2 ∧ h1 = h) := by
  refine CP.ofV (L := [some (.ref q)]) RX4 (by decide +kernel) rfl (Nat.le_of_ble_eq_true rfl) rfl (fun X hX G E => ?_)
  subst hX
  obtain ⟨hq0, hq1, hq2, hs0, hf0, hf1, hs1, hs2⟩ := hq
  refine V_aload0 G dX4_size_0 ?_
  refine V_getIe (jz := 2) G fl_X4_18 dX4_size_1 (by first | decide | assumption) (by first | rfl | assumption) rfl rfl (by first | (simp only [hI_sI, hI_sL, hL_sI, hL_sL, false_and, true_and, and_false, and_true, and_self, if_false, if_true]; first | done | rfl) | rfl) ?_
  exact V_reti E dX4_size_4 rfl rfl ⟨_, rfl, ⟨rfl, rfl⟩⟩

set_option maxRecDepth 100000 in
set_option maxHeartbeats 1000000 in
theorem c_X4_drawn {l : Launch} {d : Nat} {h : Hp} {q : Nat} (hq : isSt q) (hd : 1 ≤ d := by omega) : CP l d 0 0 yX4_drawn cX4_drawn 1 (Option.some Jvm.ClassFile.FieldType.int) [.ref q] h (pI fun x h1 => x = hI h q 3 ∧ h1 = h) := by
  refine CP.ofV (L := [some (.ref q)]) RX4 (by decide +kernel) rfl (Nat.le_of_ble_eq_true rfl) rfl (fun X hX G E => ?_)
  subst hX
  obtain ⟨hq0, hq1, hq2, hs0, hf0, hf1, hs1, hs2⟩ := hq
  refine V_aload0 G dX4_drawn_0 ?_
  refine V_getIe (jz := 3) G fl_X4_22 dX4_drawn_1 (by first | decide | assumption) (by first | rfl | assumption) rfl rfl (by first | (simp only [hI_sI, hI_sL, hL_sI, hL_sL, false_and, true_and, and_false, and_true, and_self, if_false, if_true]; first | done | rfl) | rfl) ?_
  exact V_reti E dX4_drawn_4 rfl rfl ⟨_, rfl, ⟨rfl, rfl⟩⟩

set_option maxRecDepth 100000 in
set_option maxHeartbeats 1000000 in
theorem c_X4_has {l : Launch} {d : Nat} {h : Hp} {q : Nat} (hq : isSt q) {n : Int} (hn : hI h q 2 = n) (hn0 : 0 ≤ n ∧ n ≤ 12) {w : Int} (hw : inr w) (hd : 1 ≤ d := by omega) : CP l d 0 0 yX4_has cX4_has 2 (Option.some Jvm.ClassFile.FieldType.boolean) [.ref q, iv w] h (pI fun x h1 => x = bI (0 ≤ w ∧ w < n) ∧ h1 = h) := by
  refine CP.ofV (L := [some (.ref q), some (.int (Int32.ofInt w))]) RX4 (by decide +kernel) rfl (Nat.le_of_ble_eq_true rfl) rfl (fun X hX G E => ?_)
  subst hX
  obtain ⟨hq0, hq1, hq2, hs0, hf0, hf1, hs1, hs2⟩ := hq
  refine V_iload1 G dX4_has_0 ?_
  refine V_iflt G dX4_has_1 (tgt := 22) (by decide) (by first | exact r _ _ | assumption | exact ⟨by omega, by omega⟩) (fun c_1 => ?_) (fun c_1 => ?_)
  ·
    refine V_iconst G dX4_has_22 ?_
    exact V_reti E dX4_has_23 rfl rfl ⟨_, rfl, ⟨by first | exact bI_t (by omega) | exact bI_f (by omega), rfl⟩⟩
  ·
    refine V_iload1 G dX4_has_4 ?_
    refine V_aload0 G dX4_has_5 ?_
    refine V_getIe (jz := 2) G fl_X4_18 dX4_has_6 (by first | decide | assumption) (by first | rfl | assumption) rfl rfl (by first | (simp only [hI_sI, hI_sL, hL_sI, hL_sL, false_and, true_and, and_false, and_true, and_self, if_false, if_true, hn]; first | done | rfl) | rfl) ?_
    refine V_icmpge G dX4_has_9 (tgt := 22) (by decide) (by first | exact r _ _ | assumption | exact ⟨by omega, by omega⟩) (by first | exact r _ _ | assumption | exact ⟨by omega, by omega⟩) (fun c_9 => ?_) (fun c_9 => ?_)
    ·
      refine V_iconst G dX4_has_22 ?_
      exact V_reti E dX4_has_23 rfl rfl ⟨_, rfl, ⟨by first | exact bI_t (by omega) | exact bI_f (by omega), rfl⟩⟩
    ·
      refine V_iload1 G dX4_has_12 ?_
      refine V_bipush G dX4_has_13 (by decide) ?_
      refine V_icmpge G dX4_has_15 (tgt := 22) (by decide) (by first | exact r _ _ | assumption | exact ⟨by omega, by omega⟩) (by first | exact r _ _ | assumption | exact ⟨by omega, by omega⟩) (fun c_15 => ?_) (fun c_15 => ?_)
      ·
        refine V_iconst G dX4_has_22 ?_
        exact V_reti E dX4_has_23 rfl rfl ⟨_, rfl, ⟨by first | exact bI_t (by omega) | exact bI_f (by omega), rfl⟩⟩
      ·
        refine V_iconst G dX4_has_18 ?_
        refine V_goto G dX4_has_19 (tgt := 23) (by decide) ?_
        exact V_reti E dX4_has_23 rfl rfl ⟨_, rfl, ⟨by first | exact bI_t (by omega) | exact bI_f (by omega), rfl⟩⟩

set_option maxRecDepth 100000 in
set_option maxHeartbeats 1000000 in
theorem c_X4_kindAt {l : Launch} {d : Nat} {h : Hp} {q : Nat} (hq : isSt q) {n : Int} (hn : hI h q 2 = n) (hn0 : 0 ≤ n ∧ n ≤ 12) {w : Int} (hw : inr w) (hd : 2 ≤ d := by omega) : CP l d 0 0 yX4_kindAt cX4_kindAt 2 (Option.some Jvm.ClassFile.FieldType.int) [.ref q, iv w] h (pI fun x h1 => x = kdC n (fun w => hI h (q + 1) w) w ∧ h1 = h) := by
  refine CP.ofV (L := [some (.ref q), some (.int (Int32.ofInt w))]) RX4 (by decide +kernel) rfl (Nat.le_of_ble_eq_true rfl) rfl (fun X hX G E => ?_)
  subst hX
  have hq_ := hq
  obtain ⟨hq0, hq1, hq2, hs0, hf0, hf1, hs1, hs2⟩ := hq
  refine V_aload0 G dX4_kindAt_0 ?_
  refine V_iload1 G dX4_kindAt_1 ?_
  refine V_cV1i (d1 := 1) G m_X4_37 dX4_kindAt_2 (by first | decide | assumption) (by first | rfl | assumption) (c_X4_has hq_ (n := n) (w := w) hn hn0 hw) (by omega) (by omega) (by omega) (Nat.le_of_ble_eq_true rfl) (fun x_2 h_2 hp_2 => ?_)
  rw [hp_2.1, hp_2.2]
  refine V_ifeqB G dX4_kindAt_5 (tgt := 17) (by decide)  (fun c_5 => ?_) (fun c_5 => ?_)
  ·
    refine V_iconst G dX4_kindAt_17 ?_
    exact V_reti E dX4_kindAt_18 rfl rfl ⟨_, rfl, ⟨by unfold kdC; first | (rw [if_pos (by omega)]; done) | (rw [if_neg (by omega)]; done), rfl⟩⟩
  ·
    refine V_aload0 G dX4_kindAt_8 ?_
    refine V_getR G fl_X4_9 dX4_kindAt_9 (by first | decide | assumption) (by first | rfl | assumption) rfl (by first | rfl | assumption) ?_
    refine V_iload1 G dX4_kindAt_12 ?_
    refine V_ialde G dX4_kindAt_13 (by first | decide | assumption) (by first | rfl | assumption) (by decide) ⟨by omega, by omega⟩ (by first | (simp only [hI_sI, hI_sL, hL_sI, hL_sL, false_and, true_and, and_false, and_true, and_self, if_false, if_true]; first | done | rfl) | rfl) ?_
    refine V_goto G dX4_kindAt_14 (tgt := 18) (by decide) ?_
    exact V_reti E dX4_kindAt_18 rfl rfl ⟨_, rfl, ⟨by unfold kdC; first | (rw [if_pos (by omega)]; done) | (rw [if_neg (by omega)]; done), rfl⟩⟩

set_option maxRecDepth 100000 in
set_option maxHeartbeats 1000000 in
theorem c_X4_fixedAt {l : Launch} {d : Nat} {h : Hp} {q : Nat} (hq : isSt q) {n : Int} (hn : hI h q 2 = n) (hn0 : 0 ≤ n ∧ n ≤ 12) {w : Int} (hw : inr w) (hd : 2 ≤ d := by omega) : CP l d 0 0 yX4_fixedAt cX4_fixedAt 2 (Option.some Jvm.ClassFile.FieldType.int) [.ref q, iv w] h (pI fun x h1 => x = fxC n (fun w => hI h (q + 2) w) w ∧ h1 = h) := by
  refine CP.ofV (L := [some (.ref q), some (.int (Int32.ofInt w))]) RX4 (by decide +kernel) rfl (Nat.le_of_ble_eq_true rfl) rfl (fun X hX G E => ?_)
  subst hX
  have hq_ := hq
  obtain ⟨hq0, hq1, hq2, hs0, hf0, hf1, hs1, hs2⟩ := hq
  refine V_aload0 G dX4_fixedAt_0 ?_
  refine V_iload1 G dX4_fixedAt_1 ?_
  refine V_cV1i (d1 := 1) G m_X4_37 dX4_fixedAt_2 (by first | decide | assumption) (by first | rfl | assumption) (c_X4_has hq_ (n := n) (w := w) hn hn0 hw) (by omega) (by omega) (by omega) (Nat.le_of_ble_eq_true rfl) (fun x_2 h_2 hp_2 => ?_)
  rw [hp_2.1, hp_2.2]
  refine V_ifeqB G dX4_fixedAt_5 (tgt := 17) (by decide)  (fun c_5 => ?_) (fun c_5 => ?_)
  ·
    refine V_bipush G dX4_fixedAt_17 (by decide) ?_
    exact V_reti E dX4_fixedAt_19 rfl rfl ⟨_, rfl, ⟨by unfold fxC; first | (rw [if_pos (by omega)]; done) | (rw [if_neg (by omega)]; done), rfl⟩⟩
  ·
    refine V_aload0 G dX4_fixedAt_8 ?_
    refine V_getR G fl_X4_15 dX4_fixedAt_9 (by first | decide | assumption) (by first | rfl | assumption) rfl (by first | rfl | assumption) ?_
    refine V_iload1 G dX4_fixedAt_12 ?_
    refine V_ialde G dX4_fixedAt_13 (by first | decide | assumption) (by first | rfl | assumption) (by decide) ⟨by omega, by omega⟩ (by first | (simp only [hI_sI, hI_sL, hL_sI, hL_sL, false_and, true_and, and_false, and_true, and_self, if_false, if_true]; first | done | rfl) | rfl) ?_
    refine V_goto G dX4_fixedAt_14 (tgt := 19) (by decide) ?_
    exact V_reti E dX4_fixedAt_19 rfl rfl ⟨_, rfl, ⟨by unfold fxC; first | (rw [if_pos (by omega)]; done) | (rw [if_neg (by omega)]; done), rfl⟩⟩

set_option maxRecDepth 100000 in
set_option maxHeartbeats 1000000 in
theorem c_X4_fixedWords {l : Launch} {d : Nat} {h : Hp} (r : Rg h) {q : Nat} (hq : isSt q) {n : Int} (hn : hI h q 2 = n) (hn0 : 0 ≤ n ∧ n ≤ 12) (hd : 3 ≤ d := by omega) : CP l d 0 0 yX4_fixedWords cX4_fixedWords 3 (Option.some Jvm.ClassFile.FieldType.int) [.ref q] h (pI fun x h1 => x = sumF (fun k => if hI h (q + 2) k = -2 then 0 else 1) n.toNat 0 ∧ h1 = h) := by
  refine CP.ofV (L := [some (.ref q), none, none]) RX4 (by decide +kernel) rfl (Nat.le_of_ble_eq_true rfl) rfl (fun X hX G E => ?_)
  subst hX
  have hq_ := hq
  obtain ⟨hq0, hq1, hq2, hs0, hf0, hf1, hs1, hs2⟩ := hq
  have lp : ∀ (m : Nat) (k : Int) (acc : Int), k + m = n → 0 ≤ k → acc + sumF (fun k => if hI h (q + 2) k = -2 then 0 else 1) m k = sumF (fun k => if hI h (q + 2) k = -2 then 0 else 1) n.toNat 0 → V X 0 0 4 [some (.ref q), some (.int (Int32.ofInt acc)), some (.int (Int32.ofInt k))] [] h := by
    intro m
    induction m with
    | zero =>
      intro k acc hm_ hk0 hs
      refine V_iload2 G dX4_fixedWords_4 ?_
      refine V_aload0 G dX4_fixedWords_5 ?_
      refine V_getIe (jz := 2) G fl_X4_18 dX4_fixedWords_6 (by first | decide | assumption) (by first | rfl | assumption) rfl rfl (by first | (simp only [hI_sI, hI_sL, hL_sI, hL_sL, false_and, true_and, and_false, and_true, and_self, if_false, if_true, hn]; first | done | rfl) | rfl) ?_
      refine V_icmpge G dX4_fixedWords_9 (tgt := 31) (by decide) (by first | exact r _ _ | assumption | exact ⟨by omega, by omega⟩) (by first | exact r _ _ | assumption | exact ⟨by omega, by omega⟩) (fun c_9 => ?_) (fun c_9 => ?_)
      ·
        refine V_iload1 G dX4_fixedWords_31 ?_
        exact V_reti E dX4_fixedWords_32 rfl rfl ⟨_, rfl, ⟨by rw [← hs]; simp [sumF], rfl⟩⟩
      · omega
    | succ m ih =>
      intro k acc hm_ hk0 hs
      refine V_iload2 G dX4_fixedWords_4 ?_
      refine V_aload0 G dX4_fixedWords_5 ?_
      refine V_getIe (jz := 2) G fl_X4_18 dX4_fixedWords_6 (by first | decide | assumption) (by first | rfl | assumption) rfl rfl (by first | (simp only [hI_sI, hI_sL, hL_sI, hL_sL, false_and, true_and, and_false, and_true, and_self, if_false, if_true, hn]; first | done | rfl) | rfl) ?_
      refine V_icmpge G dX4_fixedWords_9 (tgt := 31) (by decide) (by first | exact r _ _ | assumption | exact ⟨by omega, by omega⟩) (by first | exact r _ _ | assumption | exact ⟨by omega, by omega⟩) (fun c_9 => ?_) (fun c_9 => ?_)
      · omega
      ·
        refine V_aload0 G dX4_fixedWords_12 ?_
        refine V_iload2 G dX4_fixedWords_13 ?_
        refine V_cV1i (d1 := 2) G m_X4_41 dX4_fixedWords_14 (by first | decide | assumption) (by first | rfl | assumption) (c_X4_fixedAt hq_ (n := n) (w := k) hn hn0 ⟨by omega, by omega⟩) (by omega) (by omega) (by omega) (Nat.le_of_ble_eq_true rfl) (fun x_14 h_14 hp_14 => ?_)
        rw [show x_14 = hI h (q + 2) k by rw [hp_14.1]; unfold fxC; rw [if_pos (by omega)], hp_14.2]
        refine V_bipush G dX4_fixedWords_17 (by decide) ?_
        refine V_icmpeq G dX4_fixedWords_19 (tgt := 25) (by decide) (by first | exact r _ _ | assumption | exact ⟨by omega, by omega⟩) (by first | exact r _ _ | assumption | exact ⟨by omega, by omega⟩) (fun c_19 => ?_) (fun c_19 => ?_)
        ·
          refine V_iinc2 G dX4_fixedWords_25 rfl ?_
          refine V_goto G dX4_fixedWords_28 (tgt := 4) (by decide) ?_
          exact ih (k + 1) _ (by omega) (by omega) (by
            rw [← hs]
            conv => rhs; rw [sumF]
            first
            | rw [if_pos (by omega)]
            | rw [if_neg (by omega)]
            omega)
        ·
          refine V_iinc1 G dX4_fixedWords_22 rfl ?_
          refine V_iinc2 G dX4_fixedWords_25 rfl ?_
          refine V_goto G dX4_fixedWords_28 (tgt := 4) (by decide) ?_
          exact ih (k + 1) _ (by omega) (by omega) (by
            rw [← hs]
            conv => rhs; rw [sumF]
            first
            | rw [if_pos (by omega)]
            | rw [if_neg (by omega)]
            omega)
  refine V_iconst G dX4_fixedWords_0 ?_
  refine V_istore1 G dX4_fixedWords_1 rfl ?_
  refine V_iconst G dX4_fixedWords_2 ?_
  refine V_istore2 G dX4_fixedWords_3 rfl ?_
  exact lp n.toNat 0 0 (by omega) (by omega) (by simp)

set_option maxRecDepth 100000 in
set_option maxHeartbeats 1000000 in
theorem c_X4_setDrawn {l : Launch} {d : Nat} {h : Hp} {q : Nat} (hq : isSt q) {v : Int} (hd : 1 ≤ d := by omega) : CP l d 0 0 yX4_setDrawn cX4_setDrawn 2 (Option.none : Option Jvm.ClassFile.FieldType) [.ref q, iv v] h (pV fun h1 => h1 = sI h q 3 v) := by
  refine CP.ofV (L := [some (.ref q), some (.int (Int32.ofInt v))]) RX4 (by decide +kernel) rfl (Nat.le_of_ble_eq_true rfl) rfl (fun X hX G E => ?_)
  subst hX
  obtain ⟨hq0, hq1, hq2, hs0, hf0, hf1, hs1, hs2⟩ := hq
  refine V_aload0 G dX4_setDrawn_0 ?_
  refine V_iload1 G dX4_setDrawn_1 ?_
  refine V_putI (jz := 3) G fw_X4_22 dX4_setDrawn_2 (by first | decide | assumption) (by first | rfl | assumption) rfl rfl ?_
  exact V_retv E dX4_setDrawn_5 rfl ⟨rfl, rfl⟩

set_option maxRecDepth 100000 in
set_option maxHeartbeats 1000000 in
theorem c_X4_pushWord {l : Launch} {d : Nat} {h : Hp} {q : Nat} (hq : isSt q) {n : Int} (hn : hI h q 2 = n) (hn0 : 0 ≤ n ∧ n ≤ 12) {v : Int} (hlt : n < 12) (hd : 1 ≤ d := by omega) : CP l d 0 0 yX4_pushWord cX4_pushWord 2 (Option.none : Option Jvm.ClassFile.FieldType) [.ref q, iv v] h (pV fun h1 => h1 = sI (sI h (q + 1) n v) q 2 (n + 1)) := by
  refine CP.ofV (L := [some (.ref q), some (.int (Int32.ofInt v))]) RX4 (by decide +kernel) rfl (Nat.le_of_ble_eq_true rfl) rfl (fun X hX G E => ?_)
  subst hX
  obtain ⟨hq0, hq1, hq2, hs0, hf0, hf1, hs1, hs2⟩ := hq
  refine V_aload0 G dX4_pushWord_0 ?_
  refine V_getIe (jz := 2) G fl_X4_18 dX4_pushWord_1 (by first | decide | assumption) (by first | rfl | assumption) rfl rfl (by first | (simp only [hI_sI, hI_sL, hL_sI, hL_sL, false_and, true_and, and_false, and_true, and_self, if_false, if_true, hn, show ¬ (q = q + 1) by omega]; first | done | rfl) | rfl) ?_
  refine V_bipush G dX4_pushWord_4 (by decide) ?_
  refine V_icmpge G dX4_pushWord_6 (tgt := 29) (by decide) (by first | exact r _ _ | assumption | exact ⟨by omega, by omega⟩) (by first | exact r _ _ | assumption | exact ⟨by omega, by omega⟩) (fun c_6 => ?_) (fun c_6 => ?_)
  · omega
  ·
    refine V_aload0 G dX4_pushWord_9 ?_
    refine V_getR G fl_X4_9 dX4_pushWord_10 (by first | decide | assumption) (by first | rfl | assumption) rfl (by first | rfl | assumption) ?_
    refine V_aload0 G dX4_pushWord_13 ?_
    refine V_getIe (jz := 2) G fl_X4_18 dX4_pushWord_14 (by first | decide | assumption) (by first | rfl | assumption) rfl rfl (by first | (simp only [hI_sI, hI_sL, hL_sI, hL_sL, false_and, true_and, and_false, and_true, and_self, if_false, if_true, hn, show ¬ (q = q + 1) by omega]; first | done | rfl) | rfl) ?_
    refine V_iload1 G dX4_pushWord_17 ?_
    refine V_iast G dX4_pushWord_18 (by first | decide | assumption) (by first | rfl | assumption) (by decide) ⟨by omega, by omega⟩ ?_
    refine V_aload0 G dX4_pushWord_19 ?_
    refine V_dup G dX4_pushWord_20 rfl ?_
    refine V_getIe (jz := 2) G fl_X4_18 dX4_pushWord_21 (by first | decide | assumption) (by first | rfl | assumption) rfl rfl (by first | (simp only [hI_sI, hI_sL, hL_sI, hL_sL, false_and, true_and, and_false, and_true, and_self, if_false, if_true, hn, show ¬ (q = q + 1) by omega]; first | done | rfl) | rfl) ?_
    refine V_iconst G dX4_pushWord_24 ?_
    refine V_iadd G dX4_pushWord_25 ?_
    refine V_putI (jz := 2) G fw_X4_18 dX4_pushWord_26 (by first | decide | assumption) (by first | rfl | assumption) rfl rfl ?_
    exact V_retv E dX4_pushWord_29 rfl ⟨rfl, rfl⟩

set_option maxRecDepth 100000 in
set_option maxHeartbeats 1000000 in
theorem c_X4_setKind {l : Launch} {d : Nat} {h : Hp} {q : Nat} (hq : isSt q) {n : Int} (hn : hI h q 2 = n) (hn0 : 0 ≤ n ∧ n ≤ 12) {w v : Int} (hw : 0 ≤ w ∧ w < n) (hd : 2 ≤ d := by omega) : CP l d 0 0 yX4_setKind cX4_setKind 3 (Option.none : Option Jvm.ClassFile.FieldType) [.ref q, iv w, iv v] h (pV fun h1 => h1 = sI h (q + 1) w v) := by
  refine CP.ofV (L := [some (.ref q), some (.int (Int32.ofInt w)), some (.int (Int32.ofInt v))]) RX4 (by decide +kernel) rfl (Nat.le_of_ble_eq_true rfl) rfl (fun X hX G E => ?_)
  subst hX
  have hq_ := hq
  obtain ⟨hq0, hq1, hq2, hs0, hf0, hf1, hs1, hs2⟩ := hq
  refine V_aload0 G dX4_setKind_0 ?_
  refine V_iload1 G dX4_setKind_1 ?_
  refine V_cV1i (d1 := 1) G m_X4_37 dX4_setKind_2 (by first | decide | assumption) (by first | rfl | assumption) (c_X4_has hq_ (n := n) (w := w) hn hn0 ⟨by omega, by omega⟩) (by omega) (by omega) (by omega) (Nat.le_of_ble_eq_true rfl) (fun x_2 h_2 hp_2 => ?_)
  rw [hp_2.1, hp_2.2]
  refine V_ifeqB G dX4_setKind_5 (tgt := 15) (by decide)  (fun c_5 => ?_) (fun c_5 => ?_)
  · exact absurd hw c_5
  ·
    refine V_aload0 G dX4_setKind_8 ?_
    refine V_getR G fl_X4_9 dX4_setKind_9 (by first | decide | assumption) (by first | rfl | assumption) rfl (by first | rfl | assumption) ?_
    refine V_iload1 G dX4_setKind_12 ?_
    refine V_iload2 G dX4_setKind_13 ?_
    refine V_iast G dX4_setKind_14 (by first | decide | assumption) (by first | rfl | assumption) (by decide) ⟨by omega, by omega⟩ ?_
    exact V_retv E dX4_setKind_15 rfl ⟨rfl, rfl⟩

set_option maxRecDepth 100000 in
set_option maxHeartbeats 1000000 in
theorem c_X4_setFixed {l : Launch} {d : Nat} {h : Hp} {q : Nat} (hq : isSt q) {n : Int} (hn : hI h q 2 = n) (hn0 : 0 ≤ n ∧ n ≤ 12) {w v : Int} (hw : 0 ≤ w ∧ w < n) (hd : 2 ≤ d := by omega) : CP l d 0 0 yX4_setFixed cX4_setFixed 3 (Option.none : Option Jvm.ClassFile.FieldType) [.ref q, iv w, iv v] h (pV fun h1 => h1 = sI h (q + 2) w v) := by
  refine CP.ofV (L := [some (.ref q), some (.int (Int32.ofInt w)), some (.int (Int32.ofInt v))]) RX4 (by decide +kernel) rfl (Nat.le_of_ble_eq_true rfl) rfl (fun X hX G E => ?_)
  subst hX
  have hq_ := hq
  obtain ⟨hq0, hq1, hq2, hs0, hf0, hf1, hs1, hs2⟩ := hq
  refine V_aload0 G dX4_setFixed_0 ?_
  refine V_iload1 G dX4_setFixed_1 ?_
  refine V_cV1i (d1 := 1) G m_X4_37 dX4_setFixed_2 (by first | decide | assumption) (by first | rfl | assumption) (c_X4_has hq_ (n := n) (w := w) hn hn0 ⟨by omega, by omega⟩) (by omega) (by omega) (by omega) (Nat.le_of_ble_eq_true rfl) (fun x_2 h_2 hp_2 => ?_)
  rw [hp_2.1, hp_2.2]
  refine V_ifeqB G dX4_setFixed_5 (tgt := 15) (by decide)  (fun c_5 => ?_) (fun c_5 => ?_)
  · exact absurd hw c_5
  ·
    refine V_aload0 G dX4_setFixed_8 ?_
    refine V_getR G fl_X4_15 dX4_setFixed_9 (by first | decide | assumption) (by first | rfl | assumption) rfl (by first | rfl | assumption) ?_
    refine V_iload1 G dX4_setFixed_12 ?_
    refine V_iload2 G dX4_setFixed_13 ?_
    refine V_iast G dX4_setFixed_14 (by first | decide | assumption) (by first | rfl | assumption) (by decide) ⟨by omega, by omega⟩ ?_
    exact V_retv E dX4_setFixed_15 rfl ⟨rfl, rfl⟩

set_option maxRecDepth 100000 in
set_option maxHeartbeats 1000000 in
theorem c_X4_dropWord {l : Launch} {d : Nat} {h : Hp} {q : Nat} (hq : isSt q) {n : Int} (hn : hI h q 2 = n) (hn0 : 0 ≤ n ∧ n ≤ 12) {w : Int} (hw : 0 ≤ w ∧ w < n) (hd : 13 ≤ d := by omega) : CP l d 0 0 yX4_dropWord cX4_dropWord 2 (Option.none : Option Jvm.ClassFile.FieldType) [.ref q, iv w] h (pV fun h1 => h1 = sI (cpH h (q + 1) (q + 1) (w + 1) w (n - w - 1)) q 2 (n - 1)) := by
  refine CP.ofV (L := [some (.ref q), some (.int (Int32.ofInt w))]) RX4 (by decide +kernel) rfl (Nat.le_of_ble_eq_true rfl) rfl (fun X hX G E => ?_)
  subst hX
  have hq_ := hq
  obtain ⟨hq0, hq1, hq2, hs0, hf0, hf1, hs1, hs2⟩ := hq
  refine V_aload0 G dX4_dropWord_0 ?_
  refine V_iload1 G dX4_dropWord_1 ?_
  refine V_cV1i (d1 := 1) G m_X4_37 dX4_dropWord_2 (by first | decide | assumption) (by first | rfl | assumption) (c_X4_has hq_ (n := n) (w := w) hn hn0 ⟨by omega, by omega⟩) (by omega) (by omega) (by omega) (Nat.le_of_ble_eq_true rfl) (fun x_2 h_2 hp_2 => ?_)
  rw [hp_2.1, hp_2.2]
  refine V_ifeqB G dX4_dropWord_5 (tgt := 41) (by decide)  (fun c_5 => ?_) (fun c_5 => ?_)
  · exact absurd hw c_5
  ·
    refine V_aload0 G dX4_dropWord_8 ?_
    refine V_getR G fl_X4_9 dX4_dropWord_9 (by first | decide | assumption) (by first | rfl | assumption) rfl (by first | rfl | assumption) ?_
    refine V_iload1 G dX4_dropWord_12 ?_
    refine V_iconst G dX4_dropWord_13 ?_
    refine V_iadd G dX4_dropWord_14 ?_
    refine V_aload0 G dX4_dropWord_15 ?_
    refine V_getR G fl_X4_9 dX4_dropWord_16 (by first | decide | assumption) (by first | rfl | assumption) rfl (by first | rfl | assumption) ?_
    refine V_iload1 G dX4_dropWord_19 ?_
    refine V_aload0 G dX4_dropWord_20 ?_
    refine V_getIe (jz := 2) G fl_X4_18 dX4_dropWord_21 (by first | decide | assumption) (by first | rfl | assumption) rfl rfl (by first | (simp only [hI_sI, hI_sL, hL_sI, hL_sL, false_and, true_and, and_false, and_true, and_self, if_false, if_true, hn, hI_cpH, show ¬ (q = q + 1) by omega]; first | done | rfl) | rfl) ?_
    refine V_iload1 G dX4_dropWord_24 ?_
    refine V_isub G dX4_dropWord_25 ?_
    refine V_iconst G dX4_dropWord_26 ?_
    refine V_isub G dX4_dropWord_27 ?_
    refine V_copyi G ac_X4 dX4_dropWord_28 hq1 hq1 hs1 hs1 (by decide) (by decide) (by omega) (by omega) (by omega) (by omega) (by omega) (Nat.le_of_ble_eq_true rfl) (by omega) ?_
    refine V_aload0 G dX4_dropWord_31 ?_
    refine V_dup G dX4_dropWord_32 rfl ?_
    refine V_getIe (jz := 2) G fl_X4_18 dX4_dropWord_33 (by first | decide | assumption) (by first | rfl | assumption) rfl rfl (by first | (simp only [hI_sI, hI_sL, hL_sI, hL_sL, false_and, true_and, and_false, and_true, and_self, if_false, if_true, hn, hI_cpH, show ¬ (q = q + 1) by omega]; first | done | rfl) | rfl) ?_
    refine V_iconst G dX4_dropWord_36 ?_
    refine V_isub G dX4_dropWord_37 ?_
    refine V_putI (jz := 2) G fw_X4_18 dX4_dropWord_38 (by first | decide | assumption) (by first | rfl | assumption) rfl rfl ?_
    exact V_retv E dX4_dropWord_41 rfl ⟨rfl, rfl⟩

set_option maxRecDepth 100000 in
set_option maxHeartbeats 1000000 in
theorem c_X4_loosenAll {l : Launch} {d : Nat} {h : Hp} (r : Rg h) {q : Nat} (hq : isSt q) (hd : 2 ≤ d := by omega) : CP l d 0 0 yX4_loosenAll cX4_loosenAll 1 (Option.none : Option Jvm.ClassFile.FieldType) [.ref q] h (pV fun h1 => eqx (fun a _ => a == q + 2) h h1 ∧ Rg h1 ∧ ∀ j, 0 ≤ j → j < 12 → hI h1 (q + 2) j = -2) := by
  refine CP.ofV (L := [some (.ref q)]) RX4 (by decide +kernel) rfl (Nat.le_of_ble_eq_true rfl) rfl (fun X hX G E => ?_)
  subst hX
  obtain ⟨hq0, hq1, hq2, hs0, hf0, hf1, hs1, hs2⟩ := hq
  refine V_aload0 G dX4_loosenAll_0 ?_
  refine V_getR G fl_X4_15 dX4_loosenAll_1 (by first | decide | assumption) (by first | rfl | assumption) rfl (by first | rfl | assumption) ?_
  refine V_bipush G dX4_loosenAll_4 (by decide) ?_
  refine V_cS2v (d1 := 1) G m_X4_25 dX4_loosenAll_6 (c_J7_fill_53178 r hq2 hs2 (v := -2) ⟨by decide, by decide⟩) (by omega) (by omega) (by omega) (Nat.le_of_ble_eq_true rfl) (fun h_6 hp_6 => ?_)
  skip
  exact V_retv E dX4_loosenAll_9 rfl ⟨rfl, hp_6⟩


theorem Rg.cp {h : Hp} {q0 q1 : Nat} {a b c : Int} (r : Rg h) : Rg (cpH h q0 q1 a b c) := fun q j => by
  rw [hI_cpH]
  split
  · exact r _ _
  · exact r _ _
/-- a State's cells hold a state value -/
def StC (h : Hp) (q : Nat) (c : Cs) : Prop := hI h q 2 = nS c ∧ hI h q 3 = c 1 ∧ (∀ w, 0 ≤ w → w < nS c → hI h (q + 1) w = kdS c w) ∧ ∀ w, 0 ≤ w → w < 12 → hI h (q + 2) w = fxS c w - 2
theorem StC.eq {h h1 : Hp} {q : Nat} {c : Cs} (a : StC h q c) (e : ∀ z j, z = q ∧ (j = 2 ∨ j = 3) ∨ z = q + 1 ∨ z = q + 2 → hI h1 z j = hI h z j) : StC h1 q c :=
  ⟨(e q 2 (by omega)).trans a.1, (e q 3 (by omega)).trans a.2.1, fun w w1 w2 => (e _ _ (by omega)).trans (a.2.2.1 w w1 w2), fun w w1 w2 => (e _ _ (by omega)).trans (a.2.2.2 w w1 w2)⟩
def Sst (q a : Nat) (_ : Int) : Bool := a == q || a == q + 1 || a == q + 2

set_option maxRecDepth 100000 in
set_option maxHeartbeats 1000000 in
theorem c_X4_take {l : Launch} {d : Nat} {h : Hp} (r : Rg h) {q p : Nat} (hq : isSt q) (hp : isSt p) (hne : p + 2 < q ∨ q + 2 < p) {c : Cs} (hc : StC h p c) (hn0 : 0 ≤ nS c ∧ nS c ≤ 12) (hd : 13 ≤ d := by omega) : CP l d 0 0 yX4_take cX4_take 2 (Option.none : Option Jvm.ClassFile.FieldType) [.ref q, .ref p] h (pV fun h1 => eqx (Sst q) h h1 ∧ Rg h1 ∧ StC h1 q c) := by
  refine CP.ofV (L := [some (.ref q), some (.ref p)]) RX4 (by decide +kernel) rfl (Nat.le_of_ble_eq_true rfl) rfl (fun X hX G E => ?_)
  subst hX
  obtain ⟨hq0, hq1, hq2, hs0, hf0, hf1, hs1, hs2⟩ := hq
  obtain ⟨gq0, gq1, gq2, gs0, gf0, gf1, gs1, gs2⟩ := hp
  refine V_aload1 G dX4_take_0 ?_
  refine V_getR G fl_X4_9 dX4_take_1 (by first | decide | assumption) (by first | rfl | assumption) rfl (by first | rfl | assumption) ?_
  refine V_iconst G dX4_take_4 ?_
  refine V_aload0 G dX4_take_5 ?_
  refine V_getR G fl_X4_9 dX4_take_6 (by first | decide | assumption) (by first | rfl | assumption) rfl (by first | rfl | assumption) ?_
  refine V_iconst G dX4_take_9 ?_
  refine V_bipush G dX4_take_10 (by decide) ?_
  refine V_copyi G ac_X4 dX4_take_12 gq1 hq1 gs1 hs1 (by decide) (by decide) (by omega) (by omega) (by omega) (by omega) (by omega) (Nat.le_of_ble_eq_true rfl) (by omega) ?_
  refine V_aload1 G dX4_take_15 ?_
  refine V_getR G fl_X4_15 dX4_take_16 (by first | decide | assumption) (by first | rfl | assumption) rfl (by first | rfl | assumption) ?_
  refine V_iconst G dX4_take_19 ?_
  refine V_aload0 G dX4_take_20 ?_
  refine V_getR G fl_X4_15 dX4_take_21 (by first | decide | assumption) (by first | rfl | assumption) rfl (by first | rfl | assumption) ?_
  refine V_iconst G dX4_take_24 ?_
  refine V_bipush G dX4_take_25 (by decide) ?_
  refine V_copyi G ac_X4 dX4_take_27 gq2 hq2 gs2 hs2 (by decide) (by decide) (by omega) (by omega) (by omega) (by omega) (by omega) (Nat.le_of_ble_eq_true rfl) (by omega) ?_
  refine V_aload0 G dX4_take_30 ?_
  refine V_aload1 G dX4_take_31 ?_
  refine V_getIe (jz := 2) G fl_X4_18 dX4_take_32 (by first | decide | assumption) (by first | rfl | assumption) rfl rfl (by first | (simp only [hI_sI, hI_sL, hL_sI, hL_sL, false_and, true_and, and_false, and_true, and_self, if_false, if_true, hI_cpH, show ¬ (p = q + 1) by omega, show ¬ (p = q + 2) by omega, show ¬ (p = q) by omega]; first | done | rfl) | rfl) ?_
  refine V_putI (jz := 2) G fw_X4_18 dX4_take_35 (by first | decide | assumption) (by first | rfl | assumption) rfl rfl ?_
  refine V_aload0 G dX4_take_38 ?_
  refine V_aload1 G dX4_take_39 ?_
  refine V_getIe (jz := 3) G fl_X4_22 dX4_take_40 (by first | decide | assumption) (by first | rfl | assumption) rfl rfl (by first | (simp only [hI_sI, hI_sL, hL_sI, hL_sL, false_and, true_and, and_false, and_true, and_self, if_false, if_true, hI_cpH, show ¬ (p = q + 1) by omega, show ¬ (p = q + 2) by omega, show ¬ (p = q) by omega]; first | done | rfl) | rfl) ?_
  refine V_putI (jz := 3) G fw_X4_22 dX4_take_43 (by first | decide | assumption) (by first | rfl | assumption) rfl rfl ?_
  exact V_retv E dX4_take_46 rfl ⟨rfl, by
    refine ⟨⟨fun a j z => ?_, rfl, rfl⟩, (((r.cp).cp).sI (r _ _)).sI (r _ _), ?_⟩
    · simp only [Sst, Bool.or_eq_false_iff, beq_eq_false_iff_ne] at z
      rw [hI_sI, if_neg (fun y => z.1.1 y.1), hI_sI, if_neg (fun y => z.1.1 y.1), hI_cpH, if_neg (fun y => z.2 y.1), hI_cpH, if_neg (fun y => z.1.2 y.1)]
    · obtain ⟨c1, c2, c3, c4⟩ := hc
      refine ⟨?_, ?_, fun w w1 w2 => ?_, fun w w1 w2 => ?_⟩
      · rw [hI_sI, if_neg (by omega), hI_sI, if_pos ⟨rfl, rfl⟩]; exact c1
      · rw [hI_sI, if_pos ⟨rfl, rfl⟩]; exact c2
      · rw [hI_sI, if_neg (by omega), hI_sI, if_neg (by omega), hI_cpH, if_neg (by omega), hI_cpH, if_pos (by omega), show (0 : Int) + (w - 0) = w by omega]; exact c3 w w1 w2
      · rw [hI_sI, if_neg (by omega), hI_sI, if_neg (by omega), hI_cpH, if_pos (by omega), hI_cpH, if_neg (by omega), show (0 : Int) + (w - 0) = w by omega]; exact c4 w w1 w2⟩


def isGr (q : Nat) : Prop := q < NN ∧ q + 1 < NN ∧ SH q = .inl 2 ∧ RF q 0 = some (q + 1) ∧ SH (q + 1) = .inr (0, 169)
theorem isGr_all : isGr 9 ∧ isGr 11 ∧ isGr 13 ∧ isGr 15 ∧ isGr 17 ∧ isGr 19 ∧ isGr 21 := by
  unfold isGr
  repeat' apply And.intro
  all_goals first | rfl | decide

set_option maxRecDepth 100000 in
set_option maxHeartbeats 1000000 in
theorem c_X1_at {l : Launch} {d : Nat} {h : Hp} (r : Rg h) {q : Nat} (hq : isGr q) {i j : Int} (hi : 0 ≤ i ∧ i ≤ 12) (hj : 0 ≤ j ∧ j ≤ 12) (hd : 1 ≤ d := by omega) : CP l d 0 0 yX1_at cX1_at 3 (Option.some Jvm.ClassFile.FieldType.int) [.ref q, iv i, iv j] h (pI fun x h1 => x = hI h (q + 1) (13 * i + j) ∧ h1 = h) := by
  refine CP.ofV (L := [some (.ref q), some (.int (Int32.ofInt i)), some (.int (Int32.ofInt j))]) RX1 (by decide +kernel) rfl (Nat.le_of_ble_eq_true rfl) rfl (fun X hX G E => ?_)
  subst hX
  obtain ⟨hq0, hq1, hs0, hf0, hs1⟩ := hq
  refine V_iload1 G dX1_at_0 ?_
  refine V_iflt G dX1_at_1 (tgt := 34) (by decide) (by first | exact r _ _ | assumption | exact ⟨by omega, by omega⟩) (fun c_1 => ?_) (fun c_1 => ?_)
  · omega
  ·
    refine V_iload1 G dX1_at_4 ?_
    refine V_bipush G dX1_at_5 (by decide) ?_
    refine V_icmpge G dX1_at_7 (tgt := 34) (by decide) (by first | exact r _ _ | assumption | exact ⟨by omega, by omega⟩) (by first | exact r _ _ | assumption | exact ⟨by omega, by omega⟩) (fun c_7 => ?_) (fun c_7 => ?_)
    · omega
    ·
      refine V_iload2 G dX1_at_10 ?_
      refine V_iflt G dX1_at_11 (tgt := 34) (by decide) (by first | exact r _ _ | assumption | exact ⟨by omega, by omega⟩) (fun c_11 => ?_) (fun c_11 => ?_)
      · omega
      ·
        refine V_iload2 G dX1_at_14 ?_
        refine V_bipush G dX1_at_15 (by decide) ?_
        refine V_icmpge G dX1_at_17 (tgt := 34) (by decide) (by first | exact r _ _ | assumption | exact ⟨by omega, by omega⟩) (by first | exact r _ _ | assumption | exact ⟨by omega, by omega⟩) (fun c_17 => ?_) (fun c_17 => ?_)
        · omega
        ·
          refine V_aload0 G dX1_at_20 ?_
          refine V_getR G fl_X1_11 dX1_at_21 (by first | decide | assumption) (by first | rfl | assumption) rfl (by first | rfl | assumption) ?_
          refine V_iload1 G dX1_at_24 ?_
          refine V_bipush G dX1_at_25 (by decide) ?_
          refine V_imul G dX1_at_27 ?_
          refine V_iload2 G dX1_at_28 ?_
          refine V_iadd G dX1_at_29 ?_
          refine V_ialde G dX1_at_30 (by first | decide | assumption) (by first | rfl | assumption) (by decide) ⟨by omega, by omega⟩ (by first | (simp only [hI_sI, hI_sL, hL_sI, hL_sL, false_and, true_and, and_false, and_true, and_self, if_false, if_true]; first | done | rfl) | rfl) ?_
          refine V_goto G dX1_at_31 (tgt := 35) (by decide) ?_
          exact V_reti E dX1_at_35 rfl rfl ⟨_, rfl, ⟨by rw [Int.mul_comm], rfl⟩⟩

set_option maxRecDepth 100000 in
set_option maxHeartbeats 1000000 in
theorem c_X1_atOrEmpty {l : Launch} {d : Nat} {h : Hp} (r : Rg h) {q : Nat} (hq : isGr q) {i j : Int} (hi : 0 ≤ i ∧ i ≤ 12) (hj : 0 ≤ j ∧ j ≤ 12) (hd : 2 ≤ d := by omega) : CP l d 0 0 yX1_atOrEmpty cX1_atOrEmpty 3 (Option.some Jvm.ClassFile.FieldType.int) [.ref q, iv i, iv j] h (pI fun x h1 => x = (if i = j then 1 else hI h (q + 1) (13 * i + j)) ∧ h1 = h) := by
  refine CP.ofV (L := [some (.ref q), some (.int (Int32.ofInt i)), some (.int (Int32.ofInt j))]) RX1 (by decide +kernel) rfl (Nat.le_of_ble_eq_true rfl) rfl (fun X hX G E => ?_)
  subst hX
  have hq_ := hq
  obtain ⟨hq0, hq1, hs0, hf0, hs1⟩ := hq
  refine V_iload1 G dX1_atOrEmpty_0 ?_
  refine V_iload2 G dX1_atOrEmpty_1 ?_
  refine V_icmpne G dX1_atOrEmpty_2 (tgt := 9) (by decide) (by first | exact r _ _ | assumption | exact ⟨by omega, by omega⟩) (by first | exact r _ _ | assumption | exact ⟨by omega, by omega⟩) (fun c_2 => ?_) (fun c_2 => ?_)
  ·
    refine V_aload0 G dX1_atOrEmpty_9 ?_
    refine V_iload1 G dX1_atOrEmpty_10 ?_
    refine V_iload2 G dX1_atOrEmpty_11 ?_
    refine V_cV2i (d1 := 1) G m_X1_15 dX1_atOrEmpty_12 (by first | decide | assumption) (by first | rfl | assumption) (c_X1_at r hq_ hi hj) (by omega) (by omega) (by omega) (Nat.le_of_ble_eq_true rfl) (fun x_12 h_12 hp_12 => ?_)
    rw [hp_12.1, hp_12.2]
    exact V_reti E dX1_atOrEmpty_15 rfl rfl ⟨_, rfl, ⟨by first | (rw [if_pos (by omega)]; done) | (rw [if_neg (by omega)]; done), rfl⟩⟩
  ·
    refine V_iconst G dX1_atOrEmpty_5 ?_
    refine V_goto G dX1_atOrEmpty_6 (tgt := 15) (by decide) ?_
    exact V_reti E dX1_atOrEmpty_15 rfl rfl ⟨_, rfl, ⟨by first | (rw [if_pos (by omega)]; done) | (rw [if_neg (by omega)]; done), rfl⟩⟩

set_option maxRecDepth 100000 in
set_option maxHeartbeats 1000000 in
theorem c_X1_put {l : Launch} {d : Nat} {h : Hp} (r : Rg h) {q : Nat} (hq : isGr q) {i j v : Int} (hi : 0 ≤ i ∧ i ≤ 12) (hj : 0 ≤ j ∧ j ≤ 12) (hd : 1 ≤ d := by omega) : CP l d 0 0 yX1_put cX1_put 4 (Option.none : Option Jvm.ClassFile.FieldType) [.ref q, iv i, iv j, iv v] h (pV fun h1 => h1 = sI h (q + 1) (13 * i + j) v) := by
  refine CP.ofV (L := [some (.ref q), some (.int (Int32.ofInt i)), some (.int (Int32.ofInt j)), some (.int (Int32.ofInt v))]) RX1 (by decide +kernel) rfl (Nat.le_of_ble_eq_true rfl) rfl (fun X hX G E => ?_)
  subst hX
  obtain ⟨hq0, hq1, hs0, hf0, hs1⟩ := hq
  refine V_iload1 G dX1_put_0 ?_
  refine V_iflt G dX1_put_1 (tgt := 32) (by decide) (by first | exact r _ _ | assumption | exact ⟨by omega, by omega⟩) (fun c_1 => ?_) (fun c_1 => ?_)
  · omega
  ·
    refine V_iload1 G dX1_put_4 ?_
    refine V_bipush G dX1_put_5 (by decide) ?_
    refine V_icmpge G dX1_put_7 (tgt := 32) (by decide) (by first | exact r _ _ | assumption | exact ⟨by omega, by omega⟩) (by first | exact r _ _ | assumption | exact ⟨by omega, by omega⟩) (fun c_7 => ?_) (fun c_7 => ?_)
    · omega
    ·
      refine V_iload2 G dX1_put_10 ?_
      refine V_iflt G dX1_put_11 (tgt := 32) (by decide) (by first | exact r _ _ | assumption | exact ⟨by omega, by omega⟩) (fun c_11 => ?_) (fun c_11 => ?_)
      · omega
      ·
        refine V_iload2 G dX1_put_14 ?_
        refine V_bipush G dX1_put_15 (by decide) ?_
        refine V_icmpge G dX1_put_17 (tgt := 32) (by decide) (by first | exact r _ _ | assumption | exact ⟨by omega, by omega⟩) (by first | exact r _ _ | assumption | exact ⟨by omega, by omega⟩) (fun c_17 => ?_) (fun c_17 => ?_)
        · omega
        ·
          refine V_aload0 G dX1_put_20 ?_
          refine V_getR G fl_X1_11 dX1_put_21 (by first | decide | assumption) (by first | rfl | assumption) rfl (by first | rfl | assumption) ?_
          refine V_iload1 G dX1_put_24 ?_
          refine V_bipush G dX1_put_25 (by decide) ?_
          refine V_imul G dX1_put_27 ?_
          refine V_iload2 G dX1_put_28 ?_
          refine V_iadd G dX1_put_29 ?_
          refine V_iload3 G dX1_put_30 ?_
          refine V_iast G dX1_put_31 (by first | decide | assumption) (by first | rfl | assumption) (by decide) ⟨by omega, by omega⟩ ?_
          exact V_retv E dX1_put_32 rfl ⟨rfl, by rw [Int.mul_comm]⟩

end C1
