section C9

theorem sumF_app {f : Int → Int} : ∀ (a b : Nat) (k : Int), sumF f (a + b) k = sumF f a k + sumF f b (k + a)
  | 0, b, k => by simp [sumF]
  | a + 1, b, k => by
    rw [show a + 1 + b = (a + b) + 1 by omega, sumF, sumF, sumF_app a b (k + 1), show k + 1 + (a : Int) = k + ((a + 1 : Nat) : Int) by omega, Int.add_assoc]
theorem sumF_z {f : Int → Int} : ∀ (m : Nat) (k : Int), (∀ j, k ≤ j → j < k + m → f j = 0) → sumF f m k = 0
  | 0, _, _ => rfl
  | m + 1, k, h => by rw [sumF, h k (by omega) (by omega), sumF_z m (k + 1) (fun j h1 h2 => h j (by omega) (by omega))]; rfl
theorem lfA_cons {x : Int} {l : List Int} {k : Int} (h : 0 ≤ k) : lfA (x :: l) (k + 1) = lfA l k := by
  unfold lfA
  rw [show (k + 1).toNat = k.toNat + 1 by omega, List.getElem?_cons_succ]
theorem sumF_l {F : Int → Int} : ∀ (l : List Int), sumF (fun i => F (lfA l i)) l.length 0 = (l.map F).sum
  | [] => rfl
  | x :: l => by
    rw [List.length_cons, sumF, List.map_cons, List.sum_cons, ← sumF_l l]
    have e := sumF_shift (f := fun i => F (lfA (x :: l) i)) 1 l.length 0
    rw [Int.zero_add, show (1 : Int) = 1 + 0 by omega, e]
    have e2 : sumF (fun j => F (lfA (x :: l) (1 + j))) l.length 0 = sumF (fun i => F (lfA l i)) l.length 0 := sumF_congr _ _ (fun j h1 h2 => by rw [Int.add_comm, lfA_cons h1])
    rw [e2]; rfl
theorem sumF_lf {F : Int → Int} {p : Int → Prop} : ∀ (m : Nat) (k : Int), ((lfF p m k).map F).sum = sumF (fun j => if whI (p j) = 1 then F j else 0) m k
  | 0, _ => rfl
  | m + 1, k => by
    rw [lfF, List.map_append, List.sum_append, sumF_lf m (k + 1), sumF]
    by_cases z : whI (p k) = 1
    · rw [if_pos z, if_pos z]; simp
    · rw [if_neg z, if_neg z]; simp
/-- over the readings that are left, as over all -/
theorem left_sum {c : Cs} {F : Int → Int} : sumF (fun i => F (lfA (lfS c) i)) (lfS c).length 0 = sumF (fun j => if whI (fitsP (nS c) (-1) (fxS c) (rowA (AS c) j)) = 1 then F j else 0) (AS c).length 0 := by
  rw [sumF_l]; exact sumF_lf _ _
theorem hvS_pos {c : Cs} (w z : Int) : 0 < hvS c w z ↔ ∃ i : Int, 0 ≤ i ∧ i < (lfS c).length ∧ rowA (AS c) (lfA (lfS c) i) w = z := by
  unfold hvS
  rw [sumF_pos _ _ (fun j _ _ => by split <;> omega)]
  constructor
  · rintro ⟨j, h1, h2, h3⟩
    refine ⟨j, h1, by omega, ?_⟩
    split at h3
    · next e => exact e
    · omega
  · rintro ⟨j, h1, h2, h3⟩
    exact ⟨j, h1, by omega, by rw [if_pos h3]; omega⟩
theorem sumF_one {f : Int → Int} {x : Int} : ∀ (m : Nat) (k : Int), (∀ j, k ≤ j → j < k + m → f j ≤ 1 ∧ (0 < f j → j = x)) → sumF f m k ≤ 1
  | 0, _, _ => by rw [sumF]; omega
  | m + 1, k, h => by
    have h0 := h k (by omega) (by omega)
    rw [sumF]
    by_cases z : 0 < f k
    · have : sumF f m (k + 1) ≤ sumF (fun _ => 0) m (k + 1) := sumF_mono m (k + 1) (fun j h1 h2 => by
        have := h j (by omega) (by omega)
        have := h0.2 z
        omega)
      rw [sumF_z (f := fun _ => 0) m (k + 1) (fun _ _ _ => rfl)] at this
      omega
    · have := sumF_one m (k + 1) (fun j h1 h2 => h j (by omega) (by omega))
      omega
theorem heads_free {c : Cs} (I : okS c) {w : Int} (h0 : 0 ≤ w) (h1 : w < nS c) (h : 1 < hdsS c w) : fxS c w = 0 := by
  apply Classical.byContradiction
  intro z
  have hf := I.2.2.1 w h0 (by have := I.1; omega)
  have : hdsS c w ≤ 1 := by
    unfold hdsS
    refine sumF_one (x := fxS c w - 2) _ _ (fun j j1 j2 => ⟨by split <;> omega, fun q => ?_⟩)
    split at q
    · next e =>
      obtain ⟨i, i1, i2, i3⟩ := (hvS_pos w j).mp e
      have mem : lfA (lfS c) i ∈ lfS c := List.mem_of_getElem? (lfA_at i1 i2)
      have fit : ∀ (m : Nat) (k z : Int), z ∈ lfF (fun k => fitsP (nS c) (-1) (fxS c) (rowA (AS c) k)) m k → fitsP (nS c) (-1) (fxS c) (rowA (AS c) z) := by
        intro m
        induction m with
        | zero => intro k z hz; simp [lfF] at hz
        | succ m ih =>
          intro k z hz
          rw [lfF] at hz
          rcases List.mem_append.mp hz with y | y
          · split at y
            · next e2 =>
              simp at y
              rw [y]
              apply Classical.byContradiction
              intro nf
              rw [whI_f nf] at e2
              omega
            · simp at y
          · exact ih _ _ y
      have := fit _ _ _ mem w h0 h1 ⟨by omega, by omega⟩
      omega
    · omega
  omega
theorem lb_hv {c : Cs} {w : Int} (hf : fxS c w = 0) (z : Int) : lbS c w z = hvS c w z := by
  unfold lbS hvS
  rw [left_sum (F := fun k => if rowA (AS c) k w = z then 1 else 0)]
  refine sumF_congr _ _ (fun k _ _ => ?_)
  have e : fitsP (nS c) w (fxS c) (rowA (AS c) k) ↔ fitsP (nS c) (-1) (fxS c) (rowA (AS c) k) := by
    unfold fitsP
    constructor
    · intro q v v0 v1 v2
      exact q v v0 v1 ⟨v2.1, by rintro rfl; omega⟩
    · intro q v v0 v1 v2
      exact q v v0 v1 ⟨v2.1, by omega⟩
  rw [whI_eq e]
  by_cases a : whI (fitsP (nS c) (-1) (fxS c) (rowA (AS c) k)) = 1
  · rw [if_pos a]
    by_cases b : rowA (AS c) k w = z
    · rw [if_pos ⟨a, b⟩, if_pos b]
    · rw [if_neg (fun q => b q.2), if_neg b]
  · rw [if_neg (fun q => a q.1), if_neg a]
theorem pop_hds {c : Cs} (I : okS c) {w a : Int} (h0 : 0 ≤ w) (h1 : w < nS c) (ha : ∀ y : Int, 0 ≤ y → (inM a y ↔ ∃ i : Int, 0 ≤ i ∧ i < (lfS c).length ∧ rowA (AS c) (lfA (lfS c) i) w + 1 = y)) : popF a = hdsS c w := by
  have hn := I.1
  unfold popF hdsS
  rw [show (13 : Nat) = (nS c + 1).toNat + (12 - nS c).toNat by omega, sumF_app, sumF_z (12 - nS c).toNat, Int.add_zero]
  · have e := sumF_shift (f := fun y => if a.toNat.testBit y.toNat = true then (1 : Int) else 0) 1 (nS c + 1).toNat (-1)
    rw [show (1 : Int) + -1 = 0 by omega] at e
    rw [e]
    refine sumF_congr _ _ (fun j j1 j2 => ?_)
    have q := ha (1 + j) (by omega)
    have p := hvS_pos (c := c) w j
    have : (a.toNat.testBit (1 + j).toNat = true) ↔ 0 < hvS c w j := by
      rw [p]
      refine q.trans ?_
      constructor
      · rintro ⟨i, i1, i2, i3⟩; exact ⟨i, i1, i2, by omega⟩
      · rintro ⟨i, i1, i2, i3⟩; exact ⟨i, i1, i2, by omega⟩
    by_cases z : 0 < hvS c w j
    · rw [if_pos z, if_pos (this.mpr z)]
    · rw [if_neg z, if_neg (fun y => z (this.mp y))]
  · intro j j1 j2
    rw [if_neg]
    intro y
    obtain ⟨i, i1, i2, i3⟩ := (ha j (by omega)).mp y
    have lr := lfA_r i1 i2
    have := (row_ok I lr.1 lr.2).1 w h0 h1
    omega

set_option maxRecDepth 100000 in
set_option maxHeartbeats 800000 in
theorem c_J6_bitCount_0f7a4 {l : Launch} {d : Nat} {h : Hp} {m : Int} (hm : 0 ≤ m ∧ m < 8192) (hd : 1 ≤ d := by omega) : CP l d 0 0 yJ6_bitCount_0f7a4 cJ6_bitCount_0f7a4 1 (Option.some Jvm.ClassFile.FieldType.int) [iv m] h (pI fun x h1 => x = popF m ∧ h1 = h) := by
  refine CP.ofV (L := [some (.int (Int32.ofInt m))]) RJ6 (by decide +kernel) rfl (Nat.le_of_ble_eq_true rfl) rfl (fun X hX G E => ?_)
  subst hX
  refine V_iload0 G dJ6_bitCount_0f7a4_0 ?_
  refine V_iload0 G dJ6_bitCount_0f7a4_1 ?_
  refine V_iconst G dJ6_bitCount_0f7a4_2 ?_
  refine V_iushr_ G dJ6_bitCount_0f7a4_3 ?_
  refine V_ldcw_ G dJ6_bitCount_0f7a4_4 k_J6_265 ?_
  refine V_iand_ G dJ6_bitCount_0f7a4_7 ?_
  refine V_isub_ G dJ6_bitCount_0f7a4_8 ?_
  refine V_istore0 G dJ6_bitCount_0f7a4_9 ?_
  refine V_iload0 G dJ6_bitCount_0f7a4_10 ?_
  refine V_ldcw_ G dJ6_bitCount_0f7a4_11 k_J6_266 ?_
  refine V_iand_ G dJ6_bitCount_0f7a4_14 ?_
  refine V_iload0 G dJ6_bitCount_0f7a4_15 ?_
  refine V_iconst G dJ6_bitCount_0f7a4_16 ?_
  refine V_iushr_ G dJ6_bitCount_0f7a4_17 ?_
  refine V_ldcw_ G dJ6_bitCount_0f7a4_18 k_J6_266 ?_
  refine V_iand_ G dJ6_bitCount_0f7a4_21 ?_
  refine V_iadd_ G dJ6_bitCount_0f7a4_22 ?_
  refine V_istore0 G dJ6_bitCount_0f7a4_23 ?_
  refine V_iload0 G dJ6_bitCount_0f7a4_24 ?_
  refine V_iload0 G dJ6_bitCount_0f7a4_25 ?_
  refine V_iconst G dJ6_bitCount_0f7a4_26 ?_
  refine V_iushr_ G dJ6_bitCount_0f7a4_27 ?_
  refine V_iadd_ G dJ6_bitCount_0f7a4_28 ?_
  refine V_ldcw_ G dJ6_bitCount_0f7a4_29 k_J6_267 ?_
  refine V_iand_ G dJ6_bitCount_0f7a4_32 ?_
  refine V_istore0 G dJ6_bitCount_0f7a4_33 ?_
  refine V_iload0 G dJ6_bitCount_0f7a4_34 ?_
  refine V_iload0 G dJ6_bitCount_0f7a4_35 ?_
  refine V_bipush G dJ6_bitCount_0f7a4_36 (by decide) ?_
  refine V_iushr_ G dJ6_bitCount_0f7a4_38 ?_
  refine V_iadd_ G dJ6_bitCount_0f7a4_39 ?_
  refine V_istore0 G dJ6_bitCount_0f7a4_40 ?_
  refine V_iload0 G dJ6_bitCount_0f7a4_41 ?_
  refine V_iload0 G dJ6_bitCount_0f7a4_42 ?_
  refine V_bipush G dJ6_bitCount_0f7a4_43 (by decide) ?_
  refine V_iushr_ G dJ6_bitCount_0f7a4_45 ?_
  refine V_iadd_ G dJ6_bitCount_0f7a4_46 ?_
  refine V_istore0 G dJ6_bitCount_0f7a4_47 ?_
  refine V_iload0 G dJ6_bitCount_0f7a4_48 ?_
  refine V_bipush G dJ6_bitCount_0f7a4_49 (by decide) ?_
  refine V_iand_ G dJ6_bitCount_0f7a4_51 ?_
  show V X 0 0 52 _ [.int (bcE (Int32.ofInt m))] h
  refine V_ibit G (z := popF m) (bc_pop hm) ?_
  exact V_reti E dJ6_bitCount_0f7a4_52 rfl rfl ⟨_, rfl, ⟨rfl, rfl⟩⟩

set_option maxRecDepth 100000 in
set_option maxHeartbeats 800000 in
theorem c_X6_headsLeft {l : Launch} {d : Nat} {h : Hp} {c : Cs} (I : okS c) (R : RdC h 4 c) (L : LfC h c) {w : Int} (hw : 0 ≤ w ∧ w < nS c) (hd : 3 ≤ d := by omega) : CP l d 0 0 yX6_headsLeft cX6_headsLeft 4 (Option.some Jvm.ClassFile.FieldType.int) [.ref 0, iv w] h (pI fun x h1 => x = hdsS c w ∧ h1 = h) := by
  refine CP.ofV (L := [some (.ref 0), some (.int (Int32.ofInt w)), none, none]) RX6 (by decide +kernel) rfl (Nat.le_of_ble_eq_true rfl) rfl (fun X hX G E => ?_)
  subst hX
  have h42 := rds_len I
  have l42 := lfS_len I
  have hn0 := I.1
  have lp : ∀ (m : Nat) (k : Int) (a : Int), k + m = ((lfS c).length : Int) → 0 ≤ k → 0 ≤ a ∧ a < 2 ^ 13 → (∀ y : Int, 0 ≤ y → (inM a y ↔ ∃ i : Int, 0 ≤ i ∧ i < k ∧ rowA (AS c) (lfA (lfS c) i) w + 1 = y)) → V X 0 0 4 [some (.ref 0), some (.int (Int32.ofInt w)), some (.int (Int32.ofInt a)), some (.int (Int32.ofInt k))] [] h := by
    intro m
    induction m with
    | zero =>
      intro k a hm_ hk0 ha hs
      refine V_iload3 G dX6_headsLeft_4 ?_
      refine V_aload0 G dX6_headsLeft_5 ?_
      refine V_getIe (jz := 4) G fl_X6_34 dX6_headsLeft_6 (by first | decide | assumption) (by first | rfl | assumption) rfl rfl (by first | (simp only [hI_sI, hI_sL, hL_sI, hL_sL, false_and, true_and, and_false, and_true, and_self, if_false, if_true, L.1]; first | done | rfl) | rfl) ?_
      refine V_icmpge G dX6_headsLeft_9 (tgt := 34) (by decide) (by first | exact r _ _ | assumption | exact ⟨by omega, by omega⟩) (by first | exact r _ _ | assumption | exact ⟨by omega, by omega⟩) (fun c_9 => ?_) (fun c_9 => ?_)
      ·
        refine V_iload2 G dX6_headsLeft_34 ?_
        refine V_cS1i (d1 := 1) G m_X6_337 dX6_headsLeft_35 (c_J6_bitCount_0f7a4 (m := a) ⟨ha.1, by have := ha.2; omega⟩) (by omega) (by omega) (by omega) (Nat.le_of_ble_eq_true rfl) (fun x_35 h_35 hp_35 => ?_)
        rw [hp_35.1, hp_35.2]
        exact V_reti E dX6_headsLeft_38 rfl rfl ⟨_, rfl, ⟨pop_hds I hw.1 hw.2 (fun y hy => by rw [hs y hy, show k = ((lfS c).length : Int) by omega]), rfl⟩⟩
      · omega
    | succ m ih =>
      intro k a hm_ hk0 ha hs
      refine V_iload3 G dX6_headsLeft_4 ?_
      refine V_aload0 G dX6_headsLeft_5 ?_
      refine V_getIe (jz := 4) G fl_X6_34 dX6_headsLeft_6 (by first | decide | assumption) (by first | rfl | assumption) rfl rfl (by first | (simp only [hI_sI, hI_sL, hL_sI, hL_sL, false_and, true_and, and_false, and_true, and_self, if_false, if_true, L.1]; first | done | rfl) | rfl) ?_
      refine V_icmpge G dX6_headsLeft_9 (tgt := 34) (by decide) (by first | exact r _ _ | assumption | exact ⟨by omega, by omega⟩) (by first | exact r _ _ | assumption | exact ⟨by omega, by omega⟩) (fun c_9 => ?_) (fun c_9 => ?_)
      · omega
      ·
        refine V_iload2 G dX6_headsLeft_12 ?_
        refine V_iconst G dX6_headsLeft_13 ?_
        refine V_aload0 G dX6_headsLeft_14 ?_
        refine V_iload3 G dX6_headsLeft_15 ?_
        have lr := lfA_r hk0 (show k < ((lfS c).length : Int) by omega)
        have rr := (row_ok I lr.1 lr.2).1 w hw.1 hw.2
        refine V_cV1l (d1 := 2) G m_X6_288 dX6_headsLeft_16 (by first | decide | assumption) (by first | rfl | assumption) (c_X6_leftCode I L (k := k) ⟨hk0, by omega⟩) (by omega) (by omega) (by omega) (Nat.le_of_ble_eq_true rfl) (fun x_16 h_16 hp_16 => ?_)
        rw [hp_16.1, hp_16.2]
        refine V_iload1 G dX6_headsLeft_19 ?_
        refine V_cS2i (d1 := 1) G m_X6_298 dX6_headsLeft_20 (c_X3_headIn (w := w) (by omega)) (by omega) (by omega) (by omega) (Nat.le_of_ble_eq_true rfl) (fun x_20 h_20 hp_20 => ?_)
        rw [show x_20 = rowA (AS c) (lfA (lfS c) k) w from hp_20.1.trans (R.at' lr.1 lr.2 hw.1 hw.2), hp_20.2]
        refine V_iconst G dX6_headsLeft_23 ?_
        refine V_iadd G dX6_headsLeft_24 ?_
        refine V_ishl_ G dX6_headsLeft_25 ?_
        refine V_ibit G (z := _) (rfl) ?_
        refine V_ior_ G dX6_headsLeft_26 ?_
        refine V_ibit G (z := _) (rfl) ?_
        refine V_istore2 G dX6_headsLeft_27 rfl ?_
        refine V_iinc3 G dX6_headsLeft_28 rfl ?_
        refine V_goto G dX6_headsLeft_31 (tgt := 4) (by decide) ?_
        have ob := orI_bit (a := a) (k := rowA (AS c) (lfA (lfS c) k) w + 1) (n := 13) (by omega) ha (by omega)
        exact ih (k + 1) _ (by omega) (by omega) ob.1 (fun y hy => by
          refine (ob.2 y hy).trans ?_
          rw [hs y hy]
          constructor
          · rintro (⟨i, i1, i2, i3⟩ | e)
            · exact ⟨i, i1, by omega, i3⟩
            · exact ⟨k, hk0, by omega, e.symm⟩
          · rintro ⟨i, i1, i2, i3⟩
            by_cases e : i = k
            · subst e; exact Or.inr i3.symm
            · exact Or.inl ⟨i, i1, by omega, i3⟩)
  refine V_iconst G dX6_headsLeft_0 ?_
  refine V_istore2 G dX6_headsLeft_1 rfl ?_
  refine V_iconst G dX6_headsLeft_2 ?_
  refine V_istore3 G dX6_headsLeft_3 rfl ?_
  exact lp (lfS c).length 0 0 (by omega) (by omega) (by omega) (fun y hy => by simp [inM]; intro x x1 x2; omega)

set_option maxRecDepth 100000 in
set_option maxHeartbeats 800000 in
theorem c_X6_openWords {l : Launch} {d : Nat} {h : Hp} {c : Cs} (I : okS c) (S : StC h 1 c) (R : RdC h 4 c) (L : LfC h c) (hd : 4 ≤ d := by omega) : CP l d 0 0 yX6_openWords cX6_openWords 3 (Option.some Jvm.ClassFile.FieldType.int) [.ref 0] h (pI fun x h1 => x = wwS c 1 ∧ h1 = h) := by
  refine CP.ofV (L := [some (.ref 0), none, none]) RX6 (by decide +kernel) rfl (Nat.le_of_ble_eq_true rfl) rfl (fun X hX G E => ?_)
  subst hX
  obtain ⟨hn, hdr, hkd, hfx⟩ := S
  have hn0 := I.1
  have hfr := I.2.2.1
  have lp : ∀ (m : Nat) (k : Int) (acc : Int), k + m = nS c → 0 ≤ k → acc + sumF (fun k => if 1 < hdsS c k then 1 else 0) m k = sumF (fun k => if 1 < hdsS c k then 1 else 0) (nS c).toNat 0 → V X 0 0 4 [some (.ref 0), some (.int (Int32.ofInt acc)), some (.int (Int32.ofInt k))] [] h := by
    intro m
    induction m with
    | zero =>
      intro k acc hm_ hk0 hs
      refine V_iload2 G dX6_openWords_4 ?_
      refine V_aload0 G dX6_openWords_5 ?_
      refine V_getR G fl_X6_12 dX6_openWords_6 (by first | decide | assumption) (by first | rfl | assumption) rfl (by first | rfl | assumption) ?_
      refine V_cV0i (d1 := 1) G m_X6_82 dX6_openWords_9 (by first | decide | assumption) (by first | rfl | assumption) (c_X4_size isSt_all.1) (by omega) (by omega) (by omega) (Nat.le_of_ble_eq_true rfl) (fun x_9 h_9 hp_9 => ?_)
      rw [show x_9 = nS c from hp_9.1.trans hn, hp_9.2]
      refine V_icmpge G dX6_openWords_12 (tgt := 33) (by decide) (by first | exact r _ _ | assumption | exact ⟨by omega, by omega⟩) (by first | exact r _ _ | assumption | exact ⟨by omega, by omega⟩) (fun c_12 => ?_) (fun c_12 => ?_)
      ·
        refine V_iload1 G dX6_openWords_33 ?_
        exact V_reti E dX6_openWords_34 rfl rfl ⟨_, rfl, ⟨by unfold wwS; simp only [if_neg (show ¬ (1 : Int) = 0 by omega)]; rw [← hs]; simp [sumF], rfl⟩⟩
      · omega
    | succ m ih =>
      intro k acc hm_ hk0 hs
      refine V_iload2 G dX6_openWords_4 ?_
      refine V_aload0 G dX6_openWords_5 ?_
      refine V_getR G fl_X6_12 dX6_openWords_6 (by first | decide | assumption) (by first | rfl | assumption) rfl (by first | rfl | assumption) ?_
      refine V_cV0i (d1 := 1) G m_X6_82 dX6_openWords_9 (by first | decide | assumption) (by first | rfl | assumption) (c_X4_size isSt_all.1) (by omega) (by omega) (by omega) (Nat.le_of_ble_eq_true rfl) (fun x_9 h_9 hp_9 => ?_)
      rw [show x_9 = nS c from hp_9.1.trans hn, hp_9.2]
      refine V_icmpge G dX6_openWords_12 (tgt := 33) (by decide) (by first | exact r _ _ | assumption | exact ⟨by omega, by omega⟩) (by first | exact r _ _ | assumption | exact ⟨by omega, by omega⟩) (fun c_12 => ?_) (fun c_12 => ?_)
      · omega
      ·
        refine V_aload0 G dX6_openWords_15 ?_
        refine V_iload2 G dX6_openWords_16 ?_
        have hd9 := hdsS_r (c := c) k (by omega)
        refine V_cV1i (d1 := 3) G m_X6_316 dX6_openWords_17 (by first | decide | assumption) (by first | rfl | assumption) (c_X6_headsLeft I R L (w := k) ⟨hk0, by omega⟩) (by omega) (by omega) (by omega) (Nat.le_of_ble_eq_true rfl) (fun x_17 h_17 hp_17 => ?_)
        rw [hp_17.1, hp_17.2]
        refine V_iconst G dX6_openWords_20 ?_
        refine V_icmple G dX6_openWords_21 (tgt := 27) (by decide) (by first | exact r _ _ | assumption | exact ⟨by omega, by omega⟩) (by first | exact r _ _ | assumption | exact ⟨by omega, by omega⟩) (fun c_21 => ?_) (fun c_21 => ?_)
        ·
          refine V_iinc2 G dX6_openWords_27 rfl ?_
          refine V_goto G dX6_openWords_30 (tgt := 4) (by decide) ?_
          exact ih (k + 1) _ (by omega) (by omega) (by
            rw [← hs]
            conv => rhs; rw [sumF]
            first
            | rw [if_pos (by omega)]
            | rw [if_neg (by omega)]
            omega)
        ·
          refine V_iinc1 G dX6_openWords_24 rfl ?_
          refine V_iinc2 G dX6_openWords_27 rfl ?_
          refine V_goto G dX6_openWords_30 (tgt := 4) (by decide) ?_
          exact ih (k + 1) _ (by omega) (by omega) (by
            rw [← hs]
            conv => rhs; rw [sumF]
            first
            | rw [if_pos (by omega)]
            | rw [if_neg (by omega)]
            omega)
  refine V_iconst G dX6_openWords_0 ?_
  refine V_istore1 G dX6_openWords_1 rfl ?_
  refine V_iconst G dX6_openWords_2 ?_
  refine V_istore2 G dX6_openWords_3 rfl ?_
  exact lp (nS c).toNat 0 0 (by omega) (by omega) (by simp)

set_option maxRecDepth 100000 in
set_option maxHeartbeats 800000 in
theorem c_X6_share {l : Launch} {d : Nat} {h : Hp} {c : Cs} (I : okS c) (S : StC h 1 c) (R : RdC h 4 c) (L : LfC h c) (hd : 4 ≤ d := by omega) : CP l d 0 0 yX6_share cX6_share 4 (Option.some Jvm.ClassFile.FieldType.double) [.ref 0] h (pD fun x h1 => x = shS c ∧ h1 = h) := by
  refine CP.ofV (L := [some (.ref 0), none, none, none]) RX6 (by decide +kernel) rfl (Nat.le_of_ble_eq_true rfl) rfl (fun X hX G E => ?_)
  subst hX
  obtain ⟨hn, hdr, hkd, hfx⟩ := S
  have hn0 := I.1
  have hfr := I.2.2.1
  have pos : nS c ≠ 0 → V X 0 0 14 [some (.ref 0), some (.int (Int32.ofInt (nS c))), none, none] [] h := by
    intro c9
    have lp : ∀ (m : Nat) (k : Int) (acc : Int), k + m = nS c → 0 ≤ k → acc + sumF (fun k => if hdsS c k = 1 then 1 else 0) m k = sumF (fun k => if hdsS c k = 1 then 1 else 0) (nS c).toNat 0 → V X 0 0 18 [some (.ref 0), some (.int (Int32.ofInt (nS c))), some (.int (Int32.ofInt acc)), some (.int (Int32.ofInt k))] [] h := by
      intro m
      induction m with
      | zero =>
        intro k acc hm_ hk0 hs
        refine V_iload3 G dX6_share_18 ?_
        refine V_iload1 G dX6_share_19 ?_
        refine V_icmpge G dX6_share_20 (tgt := 41) (by decide) (by first | exact r _ _ | assumption | exact ⟨by omega, by omega⟩) (by first | exact r _ _ | assumption | exact ⟨by omega, by omega⟩) (fun c_20 => ?_) (fun c_20 => ?_)
        ·
          have e9 : acc = wwS c 0 := by unfold wwS; simp only [if_true]; rw [← hs]; simp [sumF]
          subst e9
          refine V_iload2 G dX6_share_41 ?_
          refine V_i2d_ G dX6_share_42 ?_
          refine V_iload1 G dX6_share_43 ?_
          refine V_i2d_ G dX6_share_44 ?_
          refine V_ddiv G dX6_share_45 (sh_n (wwS_r hn0.2 0) (by omega)) ?_
          exact V_retd E dX6_share_46 rfl ⟨_, rfl, ⟨by unfold shS; rw [if_neg c9], rfl⟩⟩
        · omega
      | succ m ih =>
        intro k acc hm_ hk0 hs
        refine V_iload3 G dX6_share_18 ?_
        refine V_iload1 G dX6_share_19 ?_
        refine V_icmpge G dX6_share_20 (tgt := 41) (by decide) (by first | exact r _ _ | assumption | exact ⟨by omega, by omega⟩) (by first | exact r _ _ | assumption | exact ⟨by omega, by omega⟩) (fun c_20 => ?_) (fun c_20 => ?_)
        · omega
        ·
          refine V_aload0 G dX6_share_23 ?_
          refine V_iload3 G dX6_share_24 ?_
          have hd9 := hdsS_r (c := c) k (by omega)
          refine V_cV1i (d1 := 3) G m_X6_316 dX6_share_25 (by first | decide | assumption) (by first | rfl | assumption) (c_X6_headsLeft I R L (w := k) ⟨hk0, by omega⟩) (by omega) (by omega) (by omega) (Nat.le_of_ble_eq_true rfl) (fun x_25 h_25 hp_25 => ?_)
          rw [hp_25.1, hp_25.2]
          refine V_iconst G dX6_share_28 ?_
          refine V_icmpne G dX6_share_29 (tgt := 35) (by decide) (by first | exact r _ _ | assumption | exact ⟨by omega, by omega⟩) (by first | exact r _ _ | assumption | exact ⟨by omega, by omega⟩) (fun c_29 => ?_) (fun c_29 => ?_)
          ·
            refine V_iinc3 G dX6_share_35 rfl ?_
            refine V_goto G dX6_share_38 (tgt := 18) (by decide) ?_
            exact ih (k + 1) _ (by omega) (by omega) (by
              rw [← hs]
              conv => rhs; rw [sumF]
              first
              | rw [if_pos (by omega)]
              | rw [if_neg (by omega)]
              omega)
          ·
            refine V_iinc2 G dX6_share_32 rfl ?_
            refine V_iinc3 G dX6_share_35 rfl ?_
            refine V_goto G dX6_share_38 (tgt := 18) (by decide) ?_
            exact ih (k + 1) _ (by omega) (by omega) (by
              rw [← hs]
              conv => rhs; rw [sumF]
              first
              | rw [if_pos (by omega)]
              | rw [if_neg (by omega)]
              omega)
    refine V_iconst G dX6_share_14 ?_
    refine V_istore2 G dX6_share_15 rfl ?_
    refine V_iconst G dX6_share_16 ?_
    refine V_istore3 G dX6_share_17 rfl ?_
    exact lp (nS c).toNat 0 0 (by omega) (by omega) (by simp)
  refine V_aload0 G dX6_share_0 ?_
  refine V_getR G fl_X6_12 dX6_share_1 (by first | decide | assumption) (by first | rfl | assumption) rfl (by first | rfl | assumption) ?_
  refine V_cV0i (d1 := 1) G m_X6_82 dX6_share_4 (by first | decide | assumption) (by first | rfl | assumption) (c_X4_size isSt_all.1) (by omega) (by omega) (by omega) (Nat.le_of_ble_eq_true rfl) (fun x_4 h_4 hp_4 => ?_)
  rw [show x_4 = nS c from hp_4.1.trans hn, hp_4.2]
  refine V_istore1 G dX6_share_7 rfl ?_
  refine V_iload1 G dX6_share_8 ?_
  refine V_ifne G dX6_share_9 (tgt := 14) (by decide) (by first | exact r _ _ | assumption | exact ⟨by omega, by omega⟩) (fun c_9 => ?_) (fun c_9 => ?_)
  ·
    exact pos (by omega)
  ·
    refine V_dconst1 G dX6_share_12 ?_
    exact V_retd E dX6_share_13 rfl ⟨_, rfl, ⟨by unfold shS; rw [if_pos (by omega)], rfl⟩⟩

end C9
