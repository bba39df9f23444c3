section C2

def plC (t : Nat) : Nat := match t with
  | 0 => 14
  | 1 => 20
  | 2 => 18
  | 3 => 10
  | 4 => 12
  | 5 => 16
  | _ => 22
def spC (h : Hp) (kd : Int → Int) (n : Int) (p : Nat → Int → Int → Prop) : Prop := ∀ t, t ≤ 6 → ∀ a b, 0 ≤ a → a ≤ b → b ≤ n → (a < b ∨ t = 3 ∨ t = 4 ∨ t = 5) → p t a b → hI h (plC t) (13 * a + b) = dp kd t a b
def zrC (h : Hp) : Prop := ∀ t, t ≤ 6 → ∀ a : Int, 0 ≤ a → a ≤ 12 → hI h (plC t) (13 * a + a) = 0
theorem plC_inj {t t0 : Nat} (h1 : t ≤ 6) (h2 : t0 ≤ 6) (e : plC t = plC t0) : t = t0 := (by decide : ∀ t < 7, ∀ t0 < 7, plC t = plC t0 → t = t0) t (by omega) t0 (by omega) e
theorem spC.put {h : Hp} {kd : Int → Int} {n i j : Int} {p p' : Nat → Int → Int → Prop} (u : spC h kd n p) (t0 : Nat) (ht : t0 ≤ 6) (hn : n ≤ 12) (hi : 0 ≤ i) (hij : i < j) (hj : j ≤ n) (hp : ∀ t, t ≤ 6 → ∀ a b, 0 ≤ a → a ≤ b → b ≤ n → p' t a b → p t a b ∨ (t = t0 ∧ a = i ∧ b = j)) : spC (sI h (plC t0) (13 * i + j) (dp kd t0 i j)) kd n p' := by
  intro t ht2 a b ha hab hb hc q
  rw [hI_sI]
  by_cases e : t = t0 ∧ a = i ∧ b = j
  · obtain ⟨rfl, rfl, rfl⟩ := e
    rw [if_pos ⟨rfl, rfl⟩]
  · rw [if_neg]
    · rcases hp t ht2 a b ha hab hb q with z | z
      · exact u t ht2 a b ha hab hb hc z
      · exact absurd z e
    · rintro ⟨z1, z2⟩
      exact e ⟨plC_inj ht2 ht z1, by omega⟩
theorem zrC.put {h : Hp} {i j v : Int} {t0 : Nat} (u : zrC h) (hi : 0 ≤ i) (hij : i < j) (hj : j ≤ 12) : zrC (sI h (plC t0) (13 * i + j) v) := by
  intro t ht a ha1 ha2
  rw [hI_sI, if_neg (by rintro ⟨-, z⟩; omega)]
  exact u t ht a ha1 ha2
theorem dp_diag {kd : Int → Int} {t : Nat} {a : Int} (ht : t = 3 ∨ t = 4 ∨ t = 5) : dp kd t a a = 0 := by
  have e3 : dp kd 3 a a = 0 := by rw [dp_3 (by omega), if_pos rfl]
  rcases ht with rfl | rfl | rfl
  · exact e3
  · rw [dp_4 (by omega), e3, show (a - a - 1).toNat = 0 by omega]; rfl
  · rw [dp_5 (by omega), show (a - a - 1).toNat = 0 by omega]; rfl
theorem dp_one {kd : Int → Int} {t : Nat} {a : Int} (ht : t = 1 ∨ t = 2 ∨ t = 6) : dp kd t a a = 1 := by
  have e2 : dp kd 2 a a = 1 := by rw [dp_2 (by omega), if_pos rfl]
  rcases ht with rfl | rfl | rfl
  · rw [dp_1 (by omega), if_pos rfl]
  · exact e2
  · rw [dp_6 (by omega), e2, show (a - a).toNat = 0 by omega]; rfl
/-- a look that answers 1 for the empty part -/
theorem spC.one {h : Hp} {kd : Int → Int} {n : Int} {p : Nat → Int → Int → Prop} (u : spC h kd n p) {t : Nat} (ht : t = 1 ∨ t = 2 ∨ t = 6) {a b : Int} (ha : 0 ≤ a) (hab : a ≤ b) (hb : b ≤ n) (hp : a < b → p t a b) : (if a = b then 1 else hI h (plC t) (13 * a + b)) = dp kd t a b := by
  by_cases e : a = b
  · subst e
    rw [if_pos rfl, dp_one ht]
  · rw [if_neg e]
    exact u t (by omega) a b ha hab hb (by omega) (hp (by omega))

set_option maxRecDepth 100000 in
set_option maxHeartbeats 1500000 in
theorem c_X2_nameWays {l : Launch} {d : Nat} {h : Hp} (r : Rg h) {kd : Int → Int} {n i j : Int} (hn0 : 0 ≤ n ∧ n ≤ 12) (hn : hI h 1 2 = n) (hk : ∀ w, 0 ≤ w → w < n → hI h 2 w = kd w ∧ 0 ≤ kd w ∧ kd w ≤ 6) (hi : 0 ≤ i) (hij : i < j) (hj : j ≤ n) (hN : hI h 10 (13 * (i + 1) + j) = dp kd 3 (i + 1) j) (hR : (if i + 1 = j then 1 else hI h 20 (13 * (i + 1) + j)) = dp kd 1 (i + 1) j) (hd : 3 ≤ d := by omega) : CP l d 0 0 yX2_nameWays cX2_nameWays 4 (Option.some Jvm.ClassFile.FieldType.int) [.ref 8, .ref 1, iv i, iv j] h (pI fun x h1 => x = dp kd 3 i j ∧ h1 = h) := by
  refine CP.ofV (L := [some (.ref 8), some (.ref 1), some (.int (Int32.ofInt i)), some (.int (Int32.ofInt j))]) RX2 (by decide +kernel) rfl (Nat.le_of_ble_eq_true rfl) rfl (fun X hX G E => ?_)
  subst hX
  refine V_aload1 G dX2_nameWays_0 ?_
  refine V_iload2 G dX2_nameWays_1 ?_
  refine V_cV1i (d1 := 2) G m_X2_57 dX2_nameWays_2 (by first | decide | assumption) (by first | rfl | assumption) (c_X4_kindAt isSt_all.1 (n := n) (w := i) hn hn0 ⟨by omega, by omega⟩) (by omega) (by omega) (by omega) (Nat.le_of_ble_eq_true rfl) (fun x_2 h_2 hp_2 => ?_)
  rw [show x_2 = kd (i) by rw [hp_2.1]; unfold kdC; rw [if_pos (by omega)]; exact (hk _ (by omega) (by omega)).1, hp_2.2]
  have kr_2 := (hk (i) (by omega) (by omega)).2
  rcases (show kd i = 0 ∨ kd i = 2 ∨ kd i = 1 ∨ kd i = 3 ∨ kd i = 4 ∨ kd i = 5 ∨ kd i = 6 by omega) with e_5 | e_5 | e_5 | e_5 | e_5 | e_5 | e_5
  · rw [e_5]
    refine V_lookup G dX2_nameWays_5 (tgt := 44) ⟨by decide, by decide⟩ (by decide) rfl (by decide) ?_
    refine V_aload0 G dX2_nameWays_44 ?_
    refine V_getR G fl_X2_30 dX2_nameWays_45 (by first | decide | assumption) (by first | rfl | assumption) rfl (by first | rfl | assumption) ?_
    refine V_iload2 G dX2_nameWays_48 ?_
    refine V_iconst G dX2_nameWays_49 ?_
    refine V_iadd G dX2_nameWays_50 ?_
    refine V_iload3 G dX2_nameWays_51 ?_
    refine V_cV2i (d1 := 2) G m_X2_73 dX2_nameWays_52 (by first | decide | assumption) (by first | rfl | assumption) (c_X1_atOrEmpty r isGr_all.2.2.2.2.2.1 (i := i + 1) (j := j) (by omega) (by omega)) (by omega) (by omega) (by omega) (Nat.le_of_ble_eq_true rfl) (fun x_52 h_52 hp_52 => ?_)
    rw [show x_52 = dp kd 1 (i + 1) (j) from hp_52.1.trans (hR), hp_52.2]
    exact V_reti E dX2_nameWays_55 rfl rfl ⟨_, rfl, ⟨by rw [dp_3 (kd := kd) (i := i) (j := j) (by omega), if_neg (by omega)]; first | (rw [if_pos (by omega)]; done) | (rw [if_neg (by omega), if_pos (by omega)]; done) | (rw [if_neg (by omega), if_neg (by omega)]; done), rfl⟩⟩
  · rw [e_5]
    refine V_lookup G dX2_nameWays_5 (tgt := 32) ⟨by decide, by decide⟩ (by decide) rfl (by decide) ?_
    refine V_aload0 G dX2_nameWays_32 ?_
    refine V_getR G fl_X2_12 dX2_nameWays_33 (by first | decide | assumption) (by first | rfl | assumption) rfl (by first | rfl | assumption) ?_
    refine V_iload2 G dX2_nameWays_36 ?_
    refine V_iconst G dX2_nameWays_37 ?_
    refine V_iadd G dX2_nameWays_38 ?_
    refine V_iload3 G dX2_nameWays_39 ?_
    refine V_cV2i (d1 := 1) G m_X2_36 dX2_nameWays_40 (by first | decide | assumption) (by first | rfl | assumption) (c_X1_at r isGr_all.1 (i := i + 1) (j := j) (by omega) (by omega)) (by omega) (by omega) (by omega) (Nat.le_of_ble_eq_true rfl) (fun x_40 h_40 hp_40 => ?_)
    rw [show x_40 = dp kd 3 (i + 1) (j) from hp_40.1.trans (hN), hp_40.2]
    exact V_reti E dX2_nameWays_43 rfl rfl ⟨_, rfl, ⟨by rw [dp_3 (kd := kd) (i := i) (j := j) (by omega), if_neg (by omega)]; first | (rw [if_pos (by omega)]; done) | (rw [if_neg (by omega), if_pos (by omega)]; done) | (rw [if_neg (by omega), if_neg (by omega)]; done), rfl⟩⟩
  · rw [e_5]
    refine V_lookup G dX2_nameWays_5 (tgt := 56) ⟨by decide, by decide⟩ (by decide) rfl (by decide) ?_
    refine V_iconst G dX2_nameWays_56 ?_
    exact V_reti E dX2_nameWays_57 rfl rfl ⟨_, rfl, ⟨by rw [dp_3 (kd := kd) (i := i) (j := j) (by omega), if_neg (by omega)]; first | (rw [if_pos (by omega)]; done) | (rw [if_neg (by omega), if_pos (by omega)]; done) | (rw [if_neg (by omega), if_neg (by omega)]; done), rfl⟩⟩
  · rw [e_5]
    refine V_lookup G dX2_nameWays_5 (tgt := 56) ⟨by decide, by decide⟩ (by decide) rfl (by decide) ?_
    refine V_iconst G dX2_nameWays_56 ?_
    exact V_reti E dX2_nameWays_57 rfl rfl ⟨_, rfl, ⟨by rw [dp_3 (kd := kd) (i := i) (j := j) (by omega), if_neg (by omega)]; first | (rw [if_pos (by omega)]; done) | (rw [if_neg (by omega), if_pos (by omega)]; done) | (rw [if_neg (by omega), if_neg (by omega)]; done), rfl⟩⟩
  · rw [e_5]
    refine V_lookup G dX2_nameWays_5 (tgt := 56) ⟨by decide, by decide⟩ (by decide) rfl (by decide) ?_
    refine V_iconst G dX2_nameWays_56 ?_
    exact V_reti E dX2_nameWays_57 rfl rfl ⟨_, rfl, ⟨by rw [dp_3 (kd := kd) (i := i) (j := j) (by omega), if_neg (by omega)]; first | (rw [if_pos (by omega)]; done) | (rw [if_neg (by omega), if_pos (by omega)]; done) | (rw [if_neg (by omega), if_neg (by omega)]; done), rfl⟩⟩
  · rw [e_5]
    refine V_lookup G dX2_nameWays_5 (tgt := 56) ⟨by decide, by decide⟩ (by decide) rfl (by decide) ?_
    refine V_iconst G dX2_nameWays_56 ?_
    exact V_reti E dX2_nameWays_57 rfl rfl ⟨_, rfl, ⟨by rw [dp_3 (kd := kd) (i := i) (j := j) (by omega), if_neg (by omega)]; first | (rw [if_pos (by omega)]; done) | (rw [if_neg (by omega), if_pos (by omega)]; done) | (rw [if_neg (by omega), if_neg (by omega)]; done), rfl⟩⟩
  · rw [e_5]
    refine V_lookup G dX2_nameWays_5 (tgt := 56) ⟨by decide, by decide⟩ (by decide) rfl (by decide) ?_
    refine V_iconst G dX2_nameWays_56 ?_
    exact V_reti E dX2_nameWays_57 rfl rfl ⟨_, rfl, ⟨by rw [dp_3 (kd := kd) (i := i) (j := j) (by omega), if_neg (by omega)]; first | (rw [if_pos (by omega)]; done) | (rw [if_neg (by omega), if_pos (by omega)]; done) | (rw [if_neg (by omega), if_neg (by omega)]; done), rfl⟩⟩

set_option maxRecDepth 100000 in
set_option maxHeartbeats 1500000 in
theorem c_X2_groupWays {l : Launch} {d : Nat} {h : Hp} (r : Rg h) {kd : Int → Int} {n i j : Int} (hn0 : 0 ≤ n ∧ n ≤ 12) (hn : hI h 1 2 = n) (hk : ∀ w, 0 ≤ w → w < n → hI h 2 w = kd w ∧ 0 ≤ kd w ∧ kd w ≤ 6) (hi : 0 ≤ i) (hij : i < j) (hj : j ≤ n) (hN : ∀ a b, i ≤ a → a ≤ b → b ≤ j → (i < a ∨ i < b) → hI h 10 (13 * a + b) = dp kd 3 a b) (hd : 3 ≤ d := by omega) : CP l d 0 0 yX2_groupWays cX2_groupWays 6 (Option.some Jvm.ClassFile.FieldType.int) [.ref 8, .ref 1, iv i, iv j] h (pI fun x h1 => x = dp kd 4 i j ∧ h1 = h) := by
  refine CP.ofV (L := [some (.ref 8), some (.ref 1), some (.int (Int32.ofInt i)), some (.int (Int32.ofInt j)), none, none]) RX2 (by decide +kernel) rfl (Nat.le_of_ble_eq_true rfl) rfl (fun X hX G E => ?_)
  subst hX
  have lp : ∀ (m : Nat) (k : Int) (acc : Int), k + m = j → i + 1 ≤ k → acc + sumF (fun k => if kd k = 5 then dp kd 3 i k * dp kd 3 (k + 1) j else 0) m k = dp kd 4 i j → V X 0 0 16 [some (.ref 8), some (.ref 1), some (.int (Int32.ofInt i)), some (.int (Int32.ofInt j)), some (.int (Int32.ofInt acc)), some (.int (Int32.ofInt k))] [] h := by
    intro m
    induction m with
    | zero =>
      intro k acc hm_ hk0 hs
      refine V_iload5 G dX2_groupWays_16 ?_
      refine V_iload3 G dX2_groupWays_18 ?_
      refine V_icmpge G dX2_groupWays_19 (tgt := 66) (by decide) (by first | exact r _ _ | assumption | exact ⟨by omega, by omega⟩) (by first | exact r _ _ | assumption | exact ⟨by omega, by omega⟩) (fun c_19 => ?_) (fun c_19 => ?_)
      ·
        refine V_iload4 G dX2_groupWays_66 ?_
        exact V_reti E dX2_groupWays_68 rfl rfl ⟨_, rfl, ⟨by rw [← hs]; simp [sumF], rfl⟩⟩
      · omega
    | succ m ih =>
      intro k acc hm_ hk0 hs
      refine V_iload5 G dX2_groupWays_16 ?_
      refine V_iload3 G dX2_groupWays_18 ?_
      refine V_icmpge G dX2_groupWays_19 (tgt := 66) (by decide) (by first | exact r _ _ | assumption | exact ⟨by omega, by omega⟩) (by first | exact r _ _ | assumption | exact ⟨by omega, by omega⟩) (fun c_19 => ?_) (fun c_19 => ?_)
      · omega
      ·
        refine V_aload1 G dX2_groupWays_22 ?_
        refine V_iload5 G dX2_groupWays_23 ?_
        refine V_cV1i (d1 := 2) G m_X2_57 dX2_groupWays_25 (by first | decide | assumption) (by first | rfl | assumption) (c_X4_kindAt isSt_all.1 (n := n) (w := k) hn hn0 ⟨by omega, by omega⟩) (by omega) (by omega) (by omega) (Nat.le_of_ble_eq_true rfl) (fun x_25 h_25 hp_25 => ?_)
        rw [show x_25 = kd (k) by rw [hp_25.1]; unfold kdC; rw [if_pos (by omega)]; exact (hk _ (by omega) (by omega)).1, hp_25.2]
        have kr_25 := (hk (k) (by omega) (by omega)).2
        refine V_iconst G dX2_groupWays_28 ?_
        refine V_icmpne G dX2_groupWays_29 (tgt := 60) (by decide) (by first | exact r _ _ | assumption | exact ⟨by omega, by omega⟩) (by first | exact r _ _ | assumption | exact ⟨by omega, by omega⟩) (fun c_29 => ?_) (fun c_29 => ?_)
        ·
          refine V_iinc5 G dX2_groupWays_60 rfl ?_
          refine V_goto G dX2_groupWays_63 (tgt := 16) (by decide) ?_
          exact ih (k + 1) _ (by omega) (by omega) (by
            rw [← hs]
            conv => rhs; rw [sumF]
            first
            | (rw [if_pos (by omega)]; omega)
            | (rw [if_neg (by omega)]; omega)
            | omega)
        ·
          refine V_iload4 G dX2_groupWays_32 ?_
          refine V_aload0 G dX2_groupWays_34 ?_
          refine V_getR G fl_X2_12 dX2_groupWays_35 (by first | decide | assumption) (by first | rfl | assumption) rfl (by first | rfl | assumption) ?_
          refine V_iload2 G dX2_groupWays_38 ?_
          refine V_iload5 G dX2_groupWays_39 ?_
          refine V_cV2i (d1 := 1) G m_X2_36 dX2_groupWays_41 (by first | decide | assumption) (by first | rfl | assumption) (c_X1_at r isGr_all.1 (i := i) (j := k) (by omega) (by omega)) (by omega) (by omega) (by omega) (Nat.le_of_ble_eq_true rfl) (fun x_41 h_41 hp_41 => ?_)
          rw [show x_41 = dp kd 3 (i) (k) from hp_41.1.trans (hN i k (by omega) (by omega) (by omega) (by omega)), hp_41.2]
          refine V_aload0 G dX2_groupWays_44 ?_
          refine V_getR G fl_X2_12 dX2_groupWays_45 (by first | decide | assumption) (by first | rfl | assumption) rfl (by first | rfl | assumption) ?_
          refine V_iload5 G dX2_groupWays_48 ?_
          refine V_iconst G dX2_groupWays_50 ?_
          refine V_iadd G dX2_groupWays_51 ?_
          refine V_iload3 G dX2_groupWays_52 ?_
          refine V_cV2i (d1 := 1) G m_X2_36 dX2_groupWays_53 (by first | decide | assumption) (by first | rfl | assumption) (c_X1_at r isGr_all.1 (i := k + 1) (j := j) (by omega) (by omega)) (by omega) (by omega) (by omega) (Nat.le_of_ble_eq_true rfl) (fun x_53 h_53 hp_53 => ?_)
          rw [show x_53 = dp kd 3 (k + 1) (j) from hp_53.1.trans (hN (k + 1) j (by omega) (by omega) (by omega) (by omega)), hp_53.2]
          refine V_imul G dX2_groupWays_56 ?_
          refine V_iadd G dX2_groupWays_57 ?_
          refine V_istore4 G dX2_groupWays_58 rfl ?_
          refine V_iinc5 G dX2_groupWays_60 rfl ?_
          refine V_goto G dX2_groupWays_63 (tgt := 16) (by decide) ?_
          exact ih (k + 1) _ (by omega) (by omega) (by
            rw [← hs]
            conv => rhs; rw [sumF]
            first
            | (rw [if_pos (by omega)]; omega)
            | (rw [if_neg (by omega)]; omega)
            | omega)
  refine V_aload0 G dX2_groupWays_0 ?_
  refine V_getR G fl_X2_12 dX2_groupWays_1 (by first | decide | assumption) (by first | rfl | assumption) rfl (by first | rfl | assumption) ?_
  refine V_iload2 G dX2_groupWays_4 ?_
  refine V_iload3 G dX2_groupWays_5 ?_
  refine V_cV2i (d1 := 1) G m_X2_36 dX2_groupWays_6 (by first | decide | assumption) (by first | rfl | assumption) (c_X1_at r isGr_all.1 (i := i) (j := j) (by omega) (by omega)) (by omega) (by omega) (by omega) (Nat.le_of_ble_eq_true rfl) (fun x_6 h_6 hp_6 => ?_)
  rw [show x_6 = dp kd 3 (i) (j) from hp_6.1.trans (hN i j (by omega) (by omega) (by omega) (by omega)), hp_6.2]
  refine V_istore4 G dX2_groupWays_9 rfl ?_
  refine V_iload2 G dX2_groupWays_11 ?_
  refine V_iconst G dX2_groupWays_12 ?_
  refine V_iadd G dX2_groupWays_13 ?_
  refine V_istore5 G dX2_groupWays_14 rfl ?_
  exact lp (j - i - 1).toNat (i + 1) _ (by omega) (by omega) (by rw [dp_4 (kd := kd) (i := i) (j := j) (by omega)])

set_option maxRecDepth 100000 in
set_option maxHeartbeats 1500000 in
theorem c_X2_phraseRowWays {l : Launch} {d : Nat} {h : Hp} (r : Rg h) {kd : Int → Int} {n i j : Int} (hn0 : 0 ≤ n ∧ n ≤ 12) (hn : hI h 1 2 = n) (hk : ∀ w, 0 ≤ w → w < n → hI h 2 w = kd w ∧ 0 ≤ kd w ∧ kd w ≤ 6) (hi : 0 ≤ i) (hij : i < j) (hj : j ≤ n) (hP : ∀ k, i < k → k ≤ j → hI h 14 (13 * i + k) = dp kd 0 i k) (hR : ∀ k, i < k → k ≤ j → (if k = j then 1 else hI h 20 (13 * k + j)) = dp kd 1 k j) (hd : 3 ≤ d := by omega) : CP l d 0 0 yX2_phraseRowWays cX2_phraseRowWays 5 (Option.some Jvm.ClassFile.FieldType.int) [.ref 8, iv i, iv j] h (pI fun x h1 => x = dp kd 1 i j ∧ h1 = h) := by
  refine CP.ofV (L := [some (.ref 8), some (.int (Int32.ofInt i)), some (.int (Int32.ofInt j)), none, none]) RX2 (by decide +kernel) rfl (Nat.le_of_ble_eq_true rfl) rfl (fun X hX G E => ?_)
  subst hX
  have lp : ∀ (m : Nat) (k : Int) (acc : Int), k + m = j + 1 → i + 1 ≤ k → acc + sumF (fun k => dp kd 0 i k * dp kd 1 k j) m k = dp kd 1 i j → V X 0 0 7 [some (.ref 8), some (.int (Int32.ofInt i)), some (.int (Int32.ofInt j)), some (.int (Int32.ofInt acc)), some (.int (Int32.ofInt k))] [] h := by
    intro m
    induction m with
    | zero =>
      intro k acc hm_ hk0 hs
      refine V_iload4 G dX2_phraseRowWays_7 ?_
      refine V_iload2 G dX2_phraseRowWays_9 ?_
      refine V_icmpgt G dX2_phraseRowWays_10 (tgt := 43) (by decide) (by first | exact r _ _ | assumption | exact ⟨by omega, by omega⟩) (by first | exact r _ _ | assumption | exact ⟨by omega, by omega⟩) (fun c_10 => ?_) (fun c_10 => ?_)
      ·
        refine V_iload3 G dX2_phraseRowWays_43 ?_
        exact V_reti E dX2_phraseRowWays_44 rfl rfl ⟨_, rfl, ⟨by rw [← hs]; simp [sumF], rfl⟩⟩
      · omega
    | succ m ih =>
      intro k acc hm_ hk0 hs
      refine V_iload4 G dX2_phraseRowWays_7 ?_
      refine V_iload2 G dX2_phraseRowWays_9 ?_
      refine V_icmpgt G dX2_phraseRowWays_10 (tgt := 43) (by decide) (by first | exact r _ _ | assumption | exact ⟨by omega, by omega⟩) (by first | exact r _ _ | assumption | exact ⟨by omega, by omega⟩) (fun c_10 => ?_) (fun c_10 => ?_)
      · omega
      ·
        refine V_iload3 G dX2_phraseRowWays_13 ?_
        refine V_aload0 G dX2_phraseRowWays_14 ?_
        refine V_getR G fl_X2_21 dX2_phraseRowWays_15 (by first | decide | assumption) (by first | rfl | assumption) rfl (by first | rfl | assumption) ?_
        refine V_iload1 G dX2_phraseRowWays_18 ?_
        refine V_iload4 G dX2_phraseRowWays_19 ?_
        refine V_cV2i (d1 := 1) G m_X2_36 dX2_phraseRowWays_21 (by first | decide | assumption) (by first | rfl | assumption) (c_X1_at r isGr_all.2.2.1 (i := i) (j := k) (by omega) (by omega)) (by omega) (by omega) (by omega) (Nat.le_of_ble_eq_true rfl) (fun x_21 h_21 hp_21 => ?_)
        rw [show x_21 = dp kd 0 (i) (k) from hp_21.1.trans (hP k (by omega) (by omega)), hp_21.2]
        refine V_aload0 G dX2_phraseRowWays_24 ?_
        refine V_getR G fl_X2_30 dX2_phraseRowWays_25 (by first | decide | assumption) (by first | rfl | assumption) rfl (by first | rfl | assumption) ?_
        refine V_iload4 G dX2_phraseRowWays_28 ?_
        refine V_iload2 G dX2_phraseRowWays_30 ?_
        refine V_cV2i (d1 := 2) G m_X2_73 dX2_phraseRowWays_31 (by first | decide | assumption) (by first | rfl | assumption) (c_X1_atOrEmpty r isGr_all.2.2.2.2.2.1 (i := k) (j := j) (by omega) (by omega)) (by omega) (by omega) (by omega) (Nat.le_of_ble_eq_true rfl) (fun x_31 h_31 hp_31 => ?_)
        rw [show x_31 = dp kd 1 (k) (j) from hp_31.1.trans (hR k (by omega) (by omega)), hp_31.2]
        refine V_imul G dX2_phraseRowWays_34 ?_
        refine V_iadd G dX2_phraseRowWays_35 ?_
        refine V_istore3 G dX2_phraseRowWays_36 rfl ?_
        refine V_iinc4 G dX2_phraseRowWays_37 rfl ?_
        refine V_goto G dX2_phraseRowWays_40 (tgt := 7) (by decide) ?_
        exact ih (k + 1) _ (by omega) (by omega) (by
          rw [← hs]
          conv => rhs; rw [sumF]
          first
          | (rw [if_pos (by omega)]; omega)
          | (rw [if_neg (by omega)]; omega)
          | omega)
  refine V_iconst G dX2_phraseRowWays_0 ?_
  refine V_istore3 G dX2_phraseRowWays_1 rfl ?_
  refine V_iload1 G dX2_phraseRowWays_2 ?_
  refine V_iconst G dX2_phraseRowWays_3 ?_
  refine V_iadd G dX2_phraseRowWays_4 ?_
  refine V_istore4 G dX2_phraseRowWays_5 rfl ?_
  exact lp (j - i).toNat (i + 1) _ (by omega) (by omega) (by rw [dp_1 (kd := kd) (i := i) (j := j) (by omega), if_neg (by omega), Int.zero_add])

set_option maxRecDepth 100000 in
set_option maxHeartbeats 1500000 in
theorem c_X2_hangingWays {l : Launch} {d : Nat} {h : Hp} (r : Rg h) {kd : Int → Int} {n i j : Int} (hn0 : 0 ≤ n ∧ n ≤ 12) (hn : hI h 1 2 = n) (hk : ∀ w, 0 ≤ w → w < n → hI h 2 w = kd w ∧ 0 ≤ kd w ∧ kd w ≤ 6) (hi : 0 ≤ i) (hij : i < j) (hj : j ≤ n) (hP : ∀ k, i < k → k ≤ j → hI h 14 (13 * i + k) = dp kd 0 i k) (hH : ∀ k, i < k → k ≤ j → (if k = j then 1 else hI h 18 (13 * k + j)) = dp kd 2 k j) (hd : 3 ≤ d := by omega) : CP l d 0 0 yX2_hangingWays cX2_hangingWays 6 (Option.some Jvm.ClassFile.FieldType.int) [.ref 8, .ref 1, iv i, iv j] h (pI fun x h1 => x = dp kd 2 i j ∧ h1 = h) := by
  refine CP.ofV (L := [some (.ref 8), some (.ref 1), some (.int (Int32.ofInt i)), some (.int (Int32.ofInt j)), none, none]) RX2 (by decide +kernel) rfl (Nat.le_of_ble_eq_true rfl) rfl (fun X hX G E => ?_)
  subst hX
  have lp : ∀ (m : Nat) (k : Int) (acc : Int), k + m = j + 1 → i + 1 ≤ k → acc + sumF (fun k => dp kd 0 i k * dp kd 2 k j) m k = dp kd 2 i j → V X 0 0 31 [some (.ref 8), some (.ref 1), some (.int (Int32.ofInt i)), some (.int (Int32.ofInt j)), some (.int (Int32.ofInt acc)), some (.int (Int32.ofInt k))] [] h := by
    intro m
    induction m with
    | zero =>
      intro k acc hm_ hk0 hs
      refine V_iload5 G dX2_hangingWays_31 ?_
      refine V_iload3 G dX2_hangingWays_33 ?_
      refine V_icmpgt G dX2_hangingWays_34 (tgt := 69) (by decide) (by first | exact r _ _ | assumption | exact ⟨by omega, by omega⟩) (by first | exact r _ _ | assumption | exact ⟨by omega, by omega⟩) (fun c_34 => ?_) (fun c_34 => ?_)
      ·
        refine V_iload4 G dX2_hangingWays_69 ?_
        exact V_reti E dX2_hangingWays_71 rfl rfl ⟨_, rfl, ⟨by rw [← hs]; simp [sumF], rfl⟩⟩
      · omega
    | succ m ih =>
      intro k acc hm_ hk0 hs
      refine V_iload5 G dX2_hangingWays_31 ?_
      refine V_iload3 G dX2_hangingWays_33 ?_
      refine V_icmpgt G dX2_hangingWays_34 (tgt := 69) (by decide) (by first | exact r _ _ | assumption | exact ⟨by omega, by omega⟩) (by first | exact r _ _ | assumption | exact ⟨by omega, by omega⟩) (fun c_34 => ?_) (fun c_34 => ?_)
      · omega
      ·
        refine V_iload4 G dX2_hangingWays_37 ?_
        refine V_aload0 G dX2_hangingWays_39 ?_
        refine V_getR G fl_X2_21 dX2_hangingWays_40 (by first | decide | assumption) (by first | rfl | assumption) rfl (by first | rfl | assumption) ?_
        refine V_iload2 G dX2_hangingWays_43 ?_
        refine V_iload5 G dX2_hangingWays_44 ?_
        refine V_cV2i (d1 := 1) G m_X2_36 dX2_hangingWays_46 (by first | decide | assumption) (by first | rfl | assumption) (c_X1_at r isGr_all.2.2.1 (i := i) (j := k) (by omega) (by omega)) (by omega) (by omega) (by omega) (Nat.le_of_ble_eq_true rfl) (fun x_46 h_46 hp_46 => ?_)
        rw [show x_46 = dp kd 0 (i) (k) from hp_46.1.trans (hP k (by omega) (by omega)), hp_46.2]
        refine V_aload0 G dX2_hangingWays_49 ?_
        refine V_getR G fl_X2_27 dX2_hangingWays_50 (by first | decide | assumption) (by first | rfl | assumption) rfl (by first | rfl | assumption) ?_
        refine V_iload5 G dX2_hangingWays_53 ?_
        refine V_iload3 G dX2_hangingWays_55 ?_
        refine V_cV2i (d1 := 2) G m_X2_73 dX2_hangingWays_56 (by first | decide | assumption) (by first | rfl | assumption) (c_X1_atOrEmpty r isGr_all.2.2.2.2.1 (i := k) (j := j) (by omega) (by omega)) (by omega) (by omega) (by omega) (Nat.le_of_ble_eq_true rfl) (fun x_56 h_56 hp_56 => ?_)
        rw [show x_56 = dp kd 2 (k) (j) from hp_56.1.trans (hH k (by omega) (by omega)), hp_56.2]
        refine V_imul G dX2_hangingWays_59 ?_
        refine V_iadd G dX2_hangingWays_60 ?_
        refine V_istore4 G dX2_hangingWays_61 rfl ?_
        refine V_iinc5 G dX2_hangingWays_63 rfl ?_
        refine V_goto G dX2_hangingWays_66 (tgt := 31) (by decide) ?_
        exact ih (k + 1) _ (by omega) (by omega) (by
          rw [← hs]
          conv => rhs; rw [sumF]
          first
          | (rw [if_pos (by omega)]; omega)
          | (rw [if_neg (by omega)]; omega)
          | omega)
  refine V_aload1 G dX2_hangingWays_0 ?_
  refine V_iload2 G dX2_hangingWays_1 ?_
  refine V_cV1i (d1 := 2) G m_X2_57 dX2_hangingWays_2 (by first | decide | assumption) (by first | rfl | assumption) (c_X4_kindAt isSt_all.1 (n := n) (w := i) hn hn0 ⟨by omega, by omega⟩) (by omega) (by omega) (by omega) (Nat.le_of_ble_eq_true rfl) (fun x_2 h_2 hp_2 => ?_)
  rw [show x_2 = kd (i) by rw [hp_2.1]; unfold kdC; rw [if_pos (by omega)]; exact (hk _ (by omega) (by omega)).1, hp_2.2]
  have kr_2 := (hk (i) (by omega) (by omega)).2
  refine V_iconst G dX2_hangingWays_5 ?_
  refine V_icmpne G dX2_hangingWays_6 (tgt := 23) (by decide) (by first | exact r _ _ | assumption | exact ⟨by omega, by omega⟩) (by first | exact r _ _ | assumption | exact ⟨by omega, by omega⟩) (fun c_6 => ?_) (fun c_6 => ?_)
  ·
    refine V_iconst G dX2_hangingWays_23 ?_
    refine V_istore4 G dX2_hangingWays_24 rfl ?_
    refine V_iload2 G dX2_hangingWays_26 ?_
    refine V_iconst G dX2_hangingWays_27 ?_
    refine V_iadd G dX2_hangingWays_28 ?_
    refine V_istore5 G dX2_hangingWays_29 rfl ?_
    exact lp (j - i).toNat (i + 1) _ (by omega) (by omega) (by rw [dp_2 (kd := kd) (i := i) (j := j) (by omega), if_neg (by omega)]; first | (rw [if_pos (by omega)]; done) | (rw [if_neg (by omega)]; done))
  ·
    refine V_aload0 G dX2_hangingWays_9 ?_
    refine V_getR G fl_X2_27 dX2_hangingWays_10 (by first | decide | assumption) (by first | rfl | assumption) rfl (by first | rfl | assumption) ?_
    refine V_iload2 G dX2_hangingWays_13 ?_
    refine V_iconst G dX2_hangingWays_14 ?_
    refine V_iadd G dX2_hangingWays_15 ?_
    refine V_iload3 G dX2_hangingWays_16 ?_
    refine V_cV2i (d1 := 2) G m_X2_73 dX2_hangingWays_17 (by first | decide | assumption) (by first | rfl | assumption) (c_X1_atOrEmpty r isGr_all.2.2.2.2.1 (i := i + 1) (j := j) (by omega) (by omega)) (by omega) (by omega) (by omega) (Nat.le_of_ble_eq_true rfl) (fun x_17 h_17 hp_17 => ?_)
    rw [show x_17 = dp kd 2 (i + 1) (j) from hp_17.1.trans (hH (i + 1) (by omega) (by omega)), hp_17.2]
    refine V_goto G dX2_hangingWays_20 (tgt := 24) (by decide) ?_
    refine V_istore4 G dX2_hangingWays_24 rfl ?_
    refine V_iload2 G dX2_hangingWays_26 ?_
    refine V_iconst G dX2_hangingWays_27 ?_
    refine V_iadd G dX2_hangingWays_28 ?_
    refine V_istore5 G dX2_hangingWays_29 rfl ?_
    exact lp (j - i).toNat (i + 1) _ (by omega) (by omega) (by rw [dp_2 (kd := kd) (i := i) (j := j) (by omega), if_neg (by omega)]; first | (rw [if_pos (by omega)]; done) | (rw [if_neg (by omega)]; done))

set_option maxRecDepth 100000 in
set_option maxHeartbeats 1500000 in
theorem c_X2_clauseWays {l : Launch} {d : Nat} {h : Hp} (r : Rg h) {kd : Int → Int} {n i j : Int} (hn0 : 0 ≤ n ∧ n ≤ 12) (hn : hI h 1 2 = n) (hk : ∀ w, 0 ≤ w → w < n → hI h 2 w = kd w ∧ 0 ≤ kd w ∧ kd w ≤ 6) (hi : 0 ≤ i) (hij : i < j) (hj : j ≤ n) (hG : ∀ k, i < k → k ≤ j → hI h 12 (13 * i + k) = dp kd 4 i k) (hT : ∀ k, i < k → k ≤ j → (if k = j then 1 else hI h 22 (13 * k + j)) = dp kd 6 k j) (hd : 3 ≤ d := by omega) : CP l d 0 0 yX2_clauseWays cX2_clauseWays 6 (Option.some Jvm.ClassFile.FieldType.int) [.ref 8, .ref 1, iv i, iv j] h (pI fun x h1 => x = dp kd 5 i j ∧ h1 = h) := by
  refine CP.ofV (L := [some (.ref 8), some (.ref 1), some (.int (Int32.ofInt i)), some (.int (Int32.ofInt j)), none, none]) RX2 (by decide +kernel) rfl (Nat.le_of_ble_eq_true rfl) rfl (fun X hX G E => ?_)
  subst hX
  have lp : ∀ (m : Nat) (k : Int) (acc : Int), k + m = j → i + 1 ≤ k → acc + sumF (fun k => if kd k = 1 then dp kd 4 i k * dp kd 6 (k + 1) j else 0) m k = dp kd 5 i j → V X 0 0 8 [some (.ref 8), some (.ref 1), some (.int (Int32.ofInt i)), some (.int (Int32.ofInt j)), some (.int (Int32.ofInt acc)), some (.int (Int32.ofInt k))] [] h := by
    intro m
    induction m with
    | zero =>
      intro k acc hm_ hk0 hs
      refine V_iload5 G dX2_clauseWays_8 ?_
      refine V_iload3 G dX2_clauseWays_10 ?_
      refine V_icmpge G dX2_clauseWays_11 (tgt := 58) (by decide) (by first | exact r _ _ | assumption | exact ⟨by omega, by omega⟩) (by first | exact r _ _ | assumption | exact ⟨by omega, by omega⟩) (fun c_11 => ?_) (fun c_11 => ?_)
      ·
        refine V_iload4 G dX2_clauseWays_58 ?_
        exact V_reti E dX2_clauseWays_60 rfl rfl ⟨_, rfl, ⟨by rw [← hs]; simp [sumF], rfl⟩⟩
      · omega
    | succ m ih =>
      intro k acc hm_ hk0 hs
      refine V_iload5 G dX2_clauseWays_8 ?_
      refine V_iload3 G dX2_clauseWays_10 ?_
      refine V_icmpge G dX2_clauseWays_11 (tgt := 58) (by decide) (by first | exact r _ _ | assumption | exact ⟨by omega, by omega⟩) (by first | exact r _ _ | assumption | exact ⟨by omega, by omega⟩) (fun c_11 => ?_) (fun c_11 => ?_)
      · omega
      ·
        refine V_aload1 G dX2_clauseWays_14 ?_
        refine V_iload5 G dX2_clauseWays_15 ?_
        refine V_cV1i (d1 := 2) G m_X2_57 dX2_clauseWays_17 (by first | decide | assumption) (by first | rfl | assumption) (c_X4_kindAt isSt_all.1 (n := n) (w := k) hn hn0 ⟨by omega, by omega⟩) (by omega) (by omega) (by omega) (Nat.le_of_ble_eq_true rfl) (fun x_17 h_17 hp_17 => ?_)
        rw [show x_17 = kd (k) by rw [hp_17.1]; unfold kdC; rw [if_pos (by omega)]; exact (hk _ (by omega) (by omega)).1, hp_17.2]
        have kr_17 := (hk (k) (by omega) (by omega)).2
        refine V_iconst G dX2_clauseWays_20 ?_
        refine V_icmpne G dX2_clauseWays_21 (tgt := 52) (by decide) (by first | exact r _ _ | assumption | exact ⟨by omega, by omega⟩) (by first | exact r _ _ | assumption | exact ⟨by omega, by omega⟩) (fun c_21 => ?_) (fun c_21 => ?_)
        ·
          refine V_iinc5 G dX2_clauseWays_52 rfl ?_
          refine V_goto G dX2_clauseWays_55 (tgt := 8) (by decide) ?_
          exact ih (k + 1) _ (by omega) (by omega) (by
            rw [← hs]
            conv => rhs; rw [sumF]
            first
            | (rw [if_pos (by omega)]; omega)
            | (rw [if_neg (by omega)]; omega)
            | omega)
        ·
          refine V_iload4 G dX2_clauseWays_24 ?_
          refine V_aload0 G dX2_clauseWays_26 ?_
          refine V_getR G fl_X2_18 dX2_clauseWays_27 (by first | decide | assumption) (by first | rfl | assumption) rfl (by first | rfl | assumption) ?_
          refine V_iload2 G dX2_clauseWays_30 ?_
          refine V_iload5 G dX2_clauseWays_31 ?_
          refine V_cV2i (d1 := 1) G m_X2_36 dX2_clauseWays_33 (by first | decide | assumption) (by first | rfl | assumption) (c_X1_at r isGr_all.2.1 (i := i) (j := k) (by omega) (by omega)) (by omega) (by omega) (by omega) (Nat.le_of_ble_eq_true rfl) (fun x_33 h_33 hp_33 => ?_)
          rw [show x_33 = dp kd 4 (i) (k) from hp_33.1.trans (hG k (by omega) (by omega)), hp_33.2]
          refine V_aload0 G dX2_clauseWays_36 ?_
          refine V_getR G fl_X2_33 dX2_clauseWays_37 (by first | decide | assumption) (by first | rfl | assumption) rfl (by first | rfl | assumption) ?_
          refine V_iload5 G dX2_clauseWays_40 ?_
          refine V_iconst G dX2_clauseWays_42 ?_
          refine V_iadd G dX2_clauseWays_43 ?_
          refine V_iload3 G dX2_clauseWays_44 ?_
          refine V_cV2i (d1 := 2) G m_X2_73 dX2_clauseWays_45 (by first | decide | assumption) (by first | rfl | assumption) (c_X1_atOrEmpty r isGr_all.2.2.2.2.2.2 (i := k + 1) (j := j) (by omega) (by omega)) (by omega) (by omega) (by omega) (Nat.le_of_ble_eq_true rfl) (fun x_45 h_45 hp_45 => ?_)
          rw [show x_45 = dp kd 6 (k + 1) (j) from hp_45.1.trans (hT (k + 1) (by omega) (by omega)), hp_45.2]
          refine V_imul G dX2_clauseWays_48 ?_
          refine V_iadd G dX2_clauseWays_49 ?_
          refine V_istore4 G dX2_clauseWays_50 rfl ?_
          refine V_iinc5 G dX2_clauseWays_52 rfl ?_
          refine V_goto G dX2_clauseWays_55 (tgt := 8) (by decide) ?_
          exact ih (k + 1) _ (by omega) (by omega) (by
            rw [← hs]
            conv => rhs; rw [sumF]
            first
            | (rw [if_pos (by omega)]; omega)
            | (rw [if_neg (by omega)]; omega)
            | omega)
  refine V_iconst G dX2_clauseWays_0 ?_
  refine V_istore4 G dX2_clauseWays_1 rfl ?_
  refine V_iload2 G dX2_clauseWays_3 ?_
  refine V_iconst G dX2_clauseWays_4 ?_
  refine V_iadd G dX2_clauseWays_5 ?_
  refine V_istore5 G dX2_clauseWays_6 rfl ?_
  exact lp (j - i - 1).toNat (i + 1) _ (by omega) (by omega) (by rw [dp_5 (kd := kd) (i := i) (j := j) (by omega), Int.zero_add])

set_option maxRecDepth 100000 in
set_option maxHeartbeats 1500000 in
theorem c_X2_verbTailWays {l : Launch} {d : Nat} {h : Hp} (r : Rg h) {kd : Int → Int} {n i j : Int} (hn0 : 0 ≤ n ∧ n ≤ 12) (hn : hI h 1 2 = n) (hk : ∀ w, 0 ≤ w → w < n → hI h 2 w = kd w ∧ 0 ≤ kd w ∧ kd w ≤ 6) (hi : 0 ≤ i) (hij : i < j) (hj : j ≤ n) (hH0 : hI h 18 (13 * i + j) = dp kd 2 i j) (hG : ∀ k, i < k → k ≤ j → hI h 12 (13 * i + k) = dp kd 4 i k) (hC : ∀ k, i < k → k ≤ j → hI h 16 (13 * (i + 1) + k) = dp kd 5 (i + 1) k) (hH : ∀ k, i < k → k ≤ j → (if k = j then 1 else hI h 18 (13 * k + j)) = dp kd 2 k j) (hd : 3 ≤ d := by omega) : CP l d 0 0 yX2_verbTailWays cX2_verbTailWays 7 (Option.some Jvm.ClassFile.FieldType.int) [.ref 8, .ref 1, iv i, iv j] h (pI fun x h1 => x = dp kd 6 i j ∧ h1 = h) := by
  refine CP.ofV (L := [some (.ref 8), some (.ref 1), some (.int (Int32.ofInt i)), some (.int (Int32.ofInt j)), none, none, none]) RX2 (by decide +kernel) rfl (Nat.le_of_ble_eq_true rfl) rfl (fun X hX G E => ?_)
  subst hX
  have lp : ∀ (m : Nat) (k : Int) (acc : Int) (a6 : Option Value), k + m = j + 1 → i + 1 ≤ k → acc + sumF (fun k => (dp kd 4 i k + if kd i = 6 then dp kd 5 (i + 1) k else 0) * dp kd 2 k j) m k = dp kd 6 i j → V X 0 0 16 [some (.ref 8), some (.ref 1), some (.int (Int32.ofInt i)), some (.int (Int32.ofInt j)), some (.int (Int32.ofInt acc)), some (.int (Int32.ofInt k)), a6] [] h := by
    intro m
    induction m with
    | zero =>
      intro k acc a6 hm_ hk0 hs
      refine V_iload5 G dX2_verbTailWays_16 ?_
      refine V_iload3 G dX2_verbTailWays_18 ?_
      refine V_icmpgt G dX2_verbTailWays_19 (tgt := 85) (by decide) (by first | exact r _ _ | assumption | exact ⟨by omega, by omega⟩) (by first | exact r _ _ | assumption | exact ⟨by omega, by omega⟩) (fun c_19 => ?_) (fun c_19 => ?_)
      ·
        refine V_iload4 G dX2_verbTailWays_85 ?_
        exact V_reti E dX2_verbTailWays_87 rfl rfl ⟨_, rfl, ⟨by rw [← hs]; simp [sumF], rfl⟩⟩
      · omega
    | succ m ih =>
      intro k acc a6 hm_ hk0 hs
      refine V_iload5 G dX2_verbTailWays_16 ?_
      refine V_iload3 G dX2_verbTailWays_18 ?_
      refine V_icmpgt G dX2_verbTailWays_19 (tgt := 85) (by decide) (by first | exact r _ _ | assumption | exact ⟨by omega, by omega⟩) (by first | exact r _ _ | assumption | exact ⟨by omega, by omega⟩) (fun c_19 => ?_) (fun c_19 => ?_)
      · omega
      ·
        refine V_aload0 G dX2_verbTailWays_22 ?_
        refine V_getR G fl_X2_18 dX2_verbTailWays_23 (by first | decide | assumption) (by first | rfl | assumption) rfl (by first | rfl | assumption) ?_
        refine V_iload2 G dX2_verbTailWays_26 ?_
        refine V_iload5 G dX2_verbTailWays_27 ?_
        refine V_cV2i (d1 := 1) G m_X2_36 dX2_verbTailWays_29 (by first | decide | assumption) (by first | rfl | assumption) (c_X1_at r isGr_all.2.1 (i := i) (j := k) (by omega) (by omega)) (by omega) (by omega) (by omega) (Nat.le_of_ble_eq_true rfl) (fun x_29 h_29 hp_29 => ?_)
        rw [show x_29 = dp kd 4 (i) (k) from hp_29.1.trans (hG k (by omega) (by omega)), hp_29.2]
        refine V_istore6 G dX2_verbTailWays_32 rfl ?_
        refine V_aload1 G dX2_verbTailWays_34 ?_
        refine V_iload2 G dX2_verbTailWays_35 ?_
        refine V_cV1i (d1 := 2) G m_X2_57 dX2_verbTailWays_36 (by first | decide | assumption) (by first | rfl | assumption) (c_X4_kindAt isSt_all.1 (n := n) (w := i) hn hn0 ⟨by omega, by omega⟩) (by omega) (by omega) (by omega) (Nat.le_of_ble_eq_true rfl) (fun x_36 h_36 hp_36 => ?_)
        rw [show x_36 = kd (i) by rw [hp_36.1]; unfold kdC; rw [if_pos (by omega)]; exact (hk _ (by omega) (by omega)).1, hp_36.2]
        have kr_36 := (hk (i) (by omega) (by omega)).2
        refine V_bipush G dX2_verbTailWays_39 (by decide) ?_
        refine V_icmpne G dX2_verbTailWays_41 (tgt := 61) (by decide) (by first | exact r _ _ | assumption | exact ⟨by omega, by omega⟩) (by first | exact r _ _ | assumption | exact ⟨by omega, by omega⟩) (fun c_41 => ?_) (fun c_41 => ?_)
        ·
          refine V_iload4 G dX2_verbTailWays_61 ?_
          refine V_iload6 G dX2_verbTailWays_63 ?_
          refine V_aload0 G dX2_verbTailWays_65 ?_
          refine V_getR G fl_X2_27 dX2_verbTailWays_66 (by first | decide | assumption) (by first | rfl | assumption) rfl (by first | rfl | assumption) ?_
          refine V_iload5 G dX2_verbTailWays_69 ?_
          refine V_iload3 G dX2_verbTailWays_71 ?_
          refine V_cV2i (d1 := 2) G m_X2_73 dX2_verbTailWays_72 (by first | decide | assumption) (by first | rfl | assumption) (c_X1_atOrEmpty r isGr_all.2.2.2.2.1 (i := k) (j := j) (by omega) (by omega)) (by omega) (by omega) (by omega) (Nat.le_of_ble_eq_true rfl) (fun x_72 h_72 hp_72 => ?_)
          rw [show x_72 = dp kd 2 (k) (j) from hp_72.1.trans (hH k (by omega) (by omega)), hp_72.2]
          refine V_imul G dX2_verbTailWays_75 ?_
          refine V_iadd G dX2_verbTailWays_76 ?_
          refine V_istore4 G dX2_verbTailWays_77 rfl ?_
          refine V_iinc5 G dX2_verbTailWays_79 rfl ?_
          refine V_goto G dX2_verbTailWays_82 (tgt := 16) (by decide) ?_
          exact ih (k + 1) _ _ (by omega) (by omega) (by
            rw [← hs]
            conv => rhs; rw [sumF]
            first
            | (rw [if_pos (by omega)]; rw [Int.add_assoc]; done)
            | (rw [if_neg (by omega)]; rw [Int.add_zero, Int.add_assoc]; done))
        ·
          refine V_iload6 G dX2_verbTailWays_44 ?_
          refine V_aload0 G dX2_verbTailWays_46 ?_
          refine V_getR G fl_X2_24 dX2_verbTailWays_47 (by first | decide | assumption) (by first | rfl | assumption) rfl (by first | rfl | assumption) ?_
          refine V_iload2 G dX2_verbTailWays_50 ?_
          refine V_iconst G dX2_verbTailWays_51 ?_
          refine V_iadd G dX2_verbTailWays_52 ?_
          refine V_iload5 G dX2_verbTailWays_53 ?_
          refine V_cV2i (d1 := 1) G m_X2_36 dX2_verbTailWays_55 (by first | decide | assumption) (by first | rfl | assumption) (c_X1_at r isGr_all.2.2.2.1 (i := i + 1) (j := k) (by omega) (by omega)) (by omega) (by omega) (by omega) (Nat.le_of_ble_eq_true rfl) (fun x_55 h_55 hp_55 => ?_)
          rw [show x_55 = dp kd 5 (i + 1) (k) from hp_55.1.trans (hC k (by omega) (by omega)), hp_55.2]
          refine V_iadd G dX2_verbTailWays_58 ?_
          refine V_istore6 G dX2_verbTailWays_59 rfl ?_
          refine V_iload4 G dX2_verbTailWays_61 ?_
          refine V_iload6 G dX2_verbTailWays_63 ?_
          refine V_aload0 G dX2_verbTailWays_65 ?_
          refine V_getR G fl_X2_27 dX2_verbTailWays_66 (by first | decide | assumption) (by first | rfl | assumption) rfl (by first | rfl | assumption) ?_
          refine V_iload5 G dX2_verbTailWays_69 ?_
          refine V_iload3 G dX2_verbTailWays_71 ?_
          refine V_cV2i (d1 := 2) G m_X2_73 dX2_verbTailWays_72 (by first | decide | assumption) (by first | rfl | assumption) (c_X1_atOrEmpty r isGr_all.2.2.2.2.1 (i := k) (j := j) (by omega) (by omega)) (by omega) (by omega) (by omega) (Nat.le_of_ble_eq_true rfl) (fun x_72 h_72 hp_72 => ?_)
          rw [show x_72 = dp kd 2 (k) (j) from hp_72.1.trans (hH k (by omega) (by omega)), hp_72.2]
          refine V_imul G dX2_verbTailWays_75 ?_
          refine V_iadd G dX2_verbTailWays_76 ?_
          refine V_istore4 G dX2_verbTailWays_77 rfl ?_
          refine V_iinc5 G dX2_verbTailWays_79 rfl ?_
          refine V_goto G dX2_verbTailWays_82 (tgt := 16) (by decide) ?_
          exact ih (k + 1) _ _ (by omega) (by omega) (by
            rw [← hs]
            conv => rhs; rw [sumF]
            first
            | (rw [if_pos (by omega)]; rw [Int.add_assoc]; done)
            | (rw [if_neg (by omega)]; rw [Int.add_zero, Int.add_assoc]; done))
  refine V_aload0 G dX2_verbTailWays_0 ?_
  refine V_getR G fl_X2_27 dX2_verbTailWays_1 (by first | decide | assumption) (by first | rfl | assumption) rfl (by first | rfl | assumption) ?_
  refine V_iload2 G dX2_verbTailWays_4 ?_
  refine V_iload3 G dX2_verbTailWays_5 ?_
  refine V_cV2i (d1 := 1) G m_X2_36 dX2_verbTailWays_6 (by first | decide | assumption) (by first | rfl | assumption) (c_X1_at r isGr_all.2.2.2.2.1 (i := i) (j := j) (by omega) (by omega)) (by omega) (by omega) (by omega) (Nat.le_of_ble_eq_true rfl) (fun x_6 h_6 hp_6 => ?_)
  rw [show x_6 = dp kd 2 (i) (j) from hp_6.1.trans (hH0), hp_6.2]
  refine V_istore4 G dX2_verbTailWays_9 rfl ?_
  refine V_iload2 G dX2_verbTailWays_11 ?_
  refine V_iconst G dX2_verbTailWays_12 ?_
  refine V_iadd G dX2_verbTailWays_13 ?_
  refine V_istore5 G dX2_verbTailWays_14 rfl ?_
  exact lp (j - i).toNat (i + 1) _ _ (by omega) (by omega) (by rw [dp_6 (kd := kd) (i := i) (j := j) (by omega)])

set_option maxRecDepth 100000 in
set_option maxHeartbeats 1500000 in
theorem c_X2_ways {l : Launch} {d : Nat} {h : Hp} (r : Rg h) {kd : Int → Int} {n i j q : Int} (hn0 : 0 ≤ n ∧ n ≤ 12) (u : spC h kd n (fun _ _ _ => True)) (hi : 0 ≤ i) (hij : i ≤ j) (hj : j ≤ n) (hq : 0 ≤ q ∧ q ≤ 4) (hne : i < j ∨ q = 3) (hd : 2 ≤ d := by omega) : CP l d 0 0 yX2_ways cX2_ways 4 (Option.some Jvm.ClassFile.FieldType.int) [.ref 8, iv i, iv j, iv q] h (pI fun x h1 => x = dp kd (ptT q) i j ∧ h1 = h) := by
  refine CP.ofV (L := [some (.ref 8), some (.int (Int32.ofInt i)), some (.int (Int32.ofInt j)), some (.int (Int32.ofInt q))]) RX2 (by decide +kernel) rfl (Nat.le_of_ble_eq_true rfl) rfl (fun X hX G E => ?_)
  subst hX
  refine V_iload1 G dX2_ways_0 ?_
  refine V_iload2 G dX2_ways_1 ?_
  refine V_icmplt G dX2_ways_2 (tgt := 7) (by decide) (by first | exact r _ _ | assumption | exact ⟨by omega, by omega⟩) (by first | exact r _ _ | assumption | exact ⟨by omega, by omega⟩) (fun c_2 => ?_) (fun c_2 => ?_)
  ·
    refine V_iload3 G dX2_ways_7 ?_
    rcases (show q = 0 ∨ q = 1 ∨ q = 2 ∨ q = 3 ∨ (q < 0 ∨ 3 < q) by omega) with e_8 | e_8 | e_8 | e_8 | e_8
    · rw [e_8]
      refine V_tableIn G dX2_ways_8 (tgt := 40) ⟨by decide, by decide⟩ (by decide) (by decide) rfl (by decide) ?_
      refine V_aload0 G dX2_ways_40 ?_
      refine V_getR G fl_X2_12 dX2_ways_41 (by first | decide | assumption) (by first | rfl | assumption) rfl (by first | rfl | assumption) ?_
      refine V_iload1 G dX2_ways_44 ?_
      refine V_iload2 G dX2_ways_45 ?_
      refine V_cV2i (d1 := 1) G m_X2_36 dX2_ways_46 (by first | decide | assumption) (by first | rfl | assumption) (c_X1_at r isGr_all.1 (i := i) (j := j) (by omega) (by omega)) (by omega) (by omega) (by omega) (Nat.le_of_ble_eq_true rfl) (fun x_46 h_46 hp_46 => ?_)
      rw [show x_46 = dp kd 3 (i) (j) from hp_46.1.trans (u 3 (by decide) i j hi hij hj (by omega) trivial), hp_46.2]
      exact V_reti E dX2_ways_49 rfl rfl ⟨_, rfl, ⟨by rw [e_8]; rfl, rfl⟩⟩
    · rw [e_8]
      refine V_tableIn G dX2_ways_8 (tgt := 50) ⟨by decide, by decide⟩ (by decide) (by decide) rfl (by decide) ?_
      refine V_aload0 G dX2_ways_50 ?_
      refine V_getR G fl_X2_18 dX2_ways_51 (by first | decide | assumption) (by first | rfl | assumption) rfl (by first | rfl | assumption) ?_
      refine V_iload1 G dX2_ways_54 ?_
      refine V_iload2 G dX2_ways_55 ?_
      refine V_cV2i (d1 := 1) G m_X2_36 dX2_ways_56 (by first | decide | assumption) (by first | rfl | assumption) (c_X1_at r isGr_all.2.1 (i := i) (j := j) (by omega) (by omega)) (by omega) (by omega) (by omega) (Nat.le_of_ble_eq_true rfl) (fun x_56 h_56 hp_56 => ?_)
      rw [show x_56 = dp kd 4 (i) (j) from hp_56.1.trans (u 4 (by decide) i j hi hij hj (by omega) trivial), hp_56.2]
      exact V_reti E dX2_ways_59 rfl rfl ⟨_, rfl, ⟨by rw [e_8]; rfl, rfl⟩⟩
    · rw [e_8]
      refine V_tableIn G dX2_ways_8 (tgt := 60) ⟨by decide, by decide⟩ (by decide) (by decide) rfl (by decide) ?_
      refine V_aload0 G dX2_ways_60 ?_
      refine V_getR G fl_X2_21 dX2_ways_61 (by first | decide | assumption) (by first | rfl | assumption) rfl (by first | rfl | assumption) ?_
      refine V_iload1 G dX2_ways_64 ?_
      refine V_iload2 G dX2_ways_65 ?_
      refine V_cV2i (d1 := 1) G m_X2_36 dX2_ways_66 (by first | decide | assumption) (by first | rfl | assumption) (c_X1_at r isGr_all.2.2.1 (i := i) (j := j) (by omega) (by omega)) (by omega) (by omega) (by omega) (Nat.le_of_ble_eq_true rfl) (fun x_66 h_66 hp_66 => ?_)
      rw [show x_66 = dp kd 0 (i) (j) from hp_66.1.trans (u 0 (by decide) i j hi hij hj (by omega) trivial), hp_66.2]
      exact V_reti E dX2_ways_69 rfl rfl ⟨_, rfl, ⟨by rw [e_8]; rfl, rfl⟩⟩
    · rw [e_8]
      refine V_tableIn G dX2_ways_8 (tgt := 70) ⟨by decide, by decide⟩ (by decide) (by decide) rfl (by decide) ?_
      refine V_aload0 G dX2_ways_70 ?_
      refine V_getR G fl_X2_24 dX2_ways_71 (by first | decide | assumption) (by first | rfl | assumption) rfl (by first | rfl | assumption) ?_
      refine V_iload1 G dX2_ways_74 ?_
      refine V_iload2 G dX2_ways_75 ?_
      refine V_cV2i (d1 := 1) G m_X2_36 dX2_ways_76 (by first | decide | assumption) (by first | rfl | assumption) (c_X1_at r isGr_all.2.2.2.1 (i := i) (j := j) (by omega) (by omega)) (by omega) (by omega) (by omega) (Nat.le_of_ble_eq_true rfl) (fun x_76 h_76 hp_76 => ?_)
      rw [show x_76 = dp kd 5 (i) (j) from hp_76.1.trans (u 5 (by decide) i j hi hij hj (by omega) trivial), hp_76.2]
      exact V_reti E dX2_ways_79 rfl rfl ⟨_, rfl, ⟨by rw [e_8]; rfl, rfl⟩⟩
    ·
      refine V_tableOut G dX2_ways_8 (tgt := 80) ⟨by omega, by omega⟩ (by omega) (by decide) ?_
      refine V_aload0 G dX2_ways_80 ?_
      refine V_getR G fl_X2_27 dX2_ways_81 (by first | decide | assumption) (by first | rfl | assumption) rfl (by first | rfl | assumption) ?_
      refine V_iload1 G dX2_ways_84 ?_
      refine V_iload2 G dX2_ways_85 ?_
      refine V_cV2i (d1 := 1) G m_X2_36 dX2_ways_86 (by first | decide | assumption) (by first | rfl | assumption) (c_X1_at r isGr_all.2.2.2.2.1 (i := i) (j := j) (by omega) (by omega)) (by omega) (by omega) (by omega) (Nat.le_of_ble_eq_true rfl) (fun x_86 h_86 hp_86 => ?_)
      rw [show x_86 = dp kd 2 (i) (j) from hp_86.1.trans (u 2 (by decide) i j hi hij hj (by omega) trivial), hp_86.2]
      exact V_reti E dX2_ways_89 rfl rfl ⟨_, rfl, ⟨by unfold ptT; rw [if_neg (by omega), if_neg (by omega), if_neg (by omega), if_neg (by omega)], rfl⟩⟩
  ·
    refine V_iconst G dX2_ways_5 ?_
    exact V_reti E dX2_ways_6 rfl rfl ⟨_, rfl, ⟨by rw [show q = 3 by omega, show j = i by omega]; exact (dp_diag (t := 5) (by omega)).symm, rfl⟩⟩


def SPC (q : Nat) (_ : Int) : Bool := decide (9 ≤ q ∧ q ≤ 22)
theorem spC.bnd {kd : Int → Int} {t : Nat} {i j n : Int} (ht : t ≤ 6) (hi : 0 ≤ i) (hij : i < j) (hj : j ≤ n) (hn : n ≤ 12) : inr (dp kd t i j) := by
  have := dp_r (kd := kd) (t := t) (i := i) (j := j) ht (by omega) (by omega)
  exact ⟨by omega, by omega⟩

set_option maxRecDepth 100000 in
set_option maxHeartbeats 1500000 in
theorem c_X2_tell {l : Launch} {d : Nat} {h : Hp} (r : Rg h) {kd : Int → Int} {n : Int} (hn0 : 0 ≤ n ∧ n ≤ 12) (hn : hI h 1 2 = n) (hk : ∀ w, 0 ≤ w → w < n → hI h 2 w = kd w ∧ 0 ≤ kd w ∧ kd w ≤ 6) (z0 : zrC h) (hd : 4 ≤ d := by omega) : CP l d 0 0 yX2_tell cX2_tell 4 (Option.none : Option Jvm.ClassFile.FieldType) [.ref 8, .ref 1] h (pV fun h1 => eqx SPC h h1 ∧ Rg h1 ∧ zrC h1 ∧ spC h1 kd n (fun _ _ _ => True)) := by
  refine CP.ofV (L := [some (.ref 8), some (.ref 1), none, none]) RX2 (by decide +kernel) rfl (Nat.le_of_ble_eq_true rfl) rfl (fun X hX G E => ?_)
  subst hX
  have inn : ∀ (mO : Nat) (_ : ∀ (i : Int) (f : Hp) (a3 : Option Value), i + 1 = (mO : Int) → Rg f → eqx SPC h f → zrC f → spC f kd n (fun t a b => i < a ∨ a = b) → V X 0 0 7 [some (.ref 8), some (.ref 1), some (.int (Int32.ofInt i)), a3] [] f) (i : Int), i = (mO : Int) → i < n → ∀ (m : Nat) (j : Int) (f : Hp), j + m = n + 1 → i < j → Rg f → eqx SPC h f → zrC f → spC f kd n (fun t a b => i < a ∨ (a = i ∧ b < j) ∨ a = b) → V X 0 0 15 [some (.ref 8), some (.ref 1), some (.int (Int32.ofInt i)), some (.int (Int32.ofInt j))] [] f := by
    intro mO ihO i hmO hin m
    have hi : 0 ≤ i := by omega
    induction m with
    | zero =>
      intro j f hm_ hij r0 ef zf u0
      have hfn : hI f 1 2 = n := (ef.1 1 2 rfl).trans hn
      refine V_iload3 G dX2_tell_15 ?_
      refine V_aload1 G dX2_tell_16 ?_
      refine V_cV0i (d1 := 1) G m_X2_40 dX2_tell_17 (by first | decide | assumption) (by first | rfl | assumption) (c_X4_size isSt_all.1) (by omega) (by omega) (by omega) (Nat.le_of_ble_eq_true rfl) (fun x_17 h_17 hp_17 => ?_)
      rw [show x_17 = n from hp_17.1.trans hfn, hp_17.2]
      refine V_icmpgt G dX2_tell_20 (tgt := 157) (by decide) (by first | exact r _ _ | assumption | exact ⟨by omega, by omega⟩) (by first | exact r _ _ | assumption | exact ⟨by omega, by omega⟩) (fun c_20 => ?_) (fun c_20 => ?_)
      ·
        refine V_iinc2 G dX2_tell_157 rfl ?_
        refine V_goto G dX2_tell_160 (tgt := 7) (by decide) ?_
        exact ihO (i + -1) f _ (by omega) r0 ef zf (fun t ht a b h1 h2 h3 h4 q => u0 t ht a b h1 h2 h3 h4 (by omega))
      · omega
    | succ m ih =>
      intro j f hm_ hij r0 ef zf u0
      have hj : j ≤ n := by omega
      have hfn : hI f 1 2 = n := (ef.1 1 2 rfl).trans hn
      have hfk : ∀ w, 0 ≤ w → w < n → hI f 2 w = kd w ∧ 0 ≤ kd w ∧ kd w ≤ 6 := fun w w1 w2 => by rw [ef.1 2 w rfl]; exact hk w w1 w2
      have u1 : spC (sI f (plC 3) (13 * i + j) (dp kd 3 i j)) kd n (fun t a b => i < a ∨ (a = i ∧ b < j) ∨ a = b ∨ (a = i ∧ b = j ∧ (t = 3))) := u0.put 3 (by decide) hn0.2 hi hij hj (fun t ht a b h1 h2 h3 q => by omega)
      have r1 : Rg (sI f (plC 3) (13 * i + j) (dp kd 3 i j)) := r0.sI (spC.bnd (by decide) hi hij hj hn0.2)
      have u2 : spC (sI (sI f (plC 3) (13 * i + j) (dp kd 3 i j)) (plC 4) (13 * i + j) (dp kd 4 i j)) kd n (fun t a b => i < a ∨ (a = i ∧ b < j) ∨ a = b ∨ (a = i ∧ b = j ∧ (t = 3 ∨ t = 4))) := u1.put 4 (by decide) hn0.2 hi hij hj (fun t ht a b h1 h2 h3 q => by omega)
      have r2 : Rg (sI (sI f (plC 3) (13 * i + j) (dp kd 3 i j)) (plC 4) (13 * i + j) (dp kd 4 i j)) := r1.sI (spC.bnd (by decide) hi hij hj hn0.2)
      have tail : V X 0 0 85 [some (.ref 8), some (.ref 1), some (.int (Int32.ofInt i)), some (.int (Int32.ofInt j))] [.int (Int32.ofInt (dp kd 0 i j)), .int (Int32.ofInt j), .int (Int32.ofInt i), .ref 13] (sI (sI f (plC 3) (13 * i + j) (dp kd 3 i j)) (plC 4) (13 * i + j) (dp kd 4 i j)) := by
        refine V_cV3v (d1 := 1) G m_X2_50 dX2_tell_85 (by first | decide | assumption) (by first | rfl | assumption) (c_X1_put r2 isGr_all.2.2.1 (i := i) (j := j) (v := dp kd 0 i j) (by omega) (by omega)) (by omega) (by omega) (by omega) (Nat.le_of_ble_eq_true rfl) (fun h_85 hp_85 => ?_)
        have e_85 : h_85 = (sI (sI (sI f (plC 3) (13 * i + j) (dp kd 3 i j)) (plC 4) (13 * i + j) (dp kd 4 i j)) (plC 0) (13 * i + j) (dp kd 0 i j)) := hp_85
        rw [e_85]
        have u3 : spC (sI (sI (sI f (plC 3) (13 * i + j) (dp kd 3 i j)) (plC 4) (13 * i + j) (dp kd 4 i j)) (plC 0) (13 * i + j) (dp kd 0 i j)) kd n (fun t a b => i < a ∨ (a = i ∧ b < j) ∨ a = b ∨ (a = i ∧ b = j ∧ (t = 3 ∨ t = 4 ∨ t = 0))) := u2.put 0 (by decide) hn0.2 hi hij hj (fun t ht a b h1 h2 h3 q => by omega)
        have r3 : Rg (sI (sI (sI f (plC 3) (13 * i + j) (dp kd 3 i j)) (plC 4) (13 * i + j) (dp kd 4 i j)) (plC 0) (13 * i + j) (dp kd 0 i j)) := r2.sI (spC.bnd (by decide) hi hij hj hn0.2)
        refine V_aload0 G dX2_tell_88 ?_
        refine V_getR G fl_X2_30 dX2_tell_89 (by first | decide | assumption) (by first | rfl | assumption) rfl (by first | rfl | assumption) ?_
        refine V_iload2 G dX2_tell_92 ?_
        refine V_iload3 G dX2_tell_93 ?_
        refine V_aload0 G dX2_tell_94 ?_
        refine V_iload2 G dX2_tell_95 ?_
        refine V_iload3 G dX2_tell_96 ?_
        refine V_cV2i (d1 := 3) G m_X2_61 dX2_tell_97 (by first | decide | assumption) (by first | rfl | assumption) (c_X2_phraseRowWays r3 (h := (sI (sI (sI f (plC 3) (13 * i + j) (dp kd 3 i j)) (plC 4) (13 * i + j) (dp kd 4 i j)) (plC 0) (13 * i + j) (dp kd 0 i j))) (kd := kd) (n := n) hn0 hfn hfk hi hij hj (fun k k1 k2 => u3 0 (by decide) i k hi (by omega) (by omega) (by omega) (by omega)) (fun k k1 k2 => u3.one (t := 1) (by omega) (a := k) (b := j) (by omega) (by omega) (by omega) (fun _ => by omega))) (by omega) (by omega) (by omega) (Nat.le_of_ble_eq_true rfl) (fun x_97 h_97 hp_97 => ?_)
        rw [show x_97 = dp kd 1 i j from hp_97.1, hp_97.2]
        refine V_cV3v (d1 := 1) G m_X2_50 dX2_tell_100 (by first | decide | assumption) (by first | rfl | assumption) (c_X1_put r3 isGr_all.2.2.2.2.2.1 (i := i) (j := j) (v := dp kd 1 i j) (by omega) (by omega)) (by omega) (by omega) (by omega) (Nat.le_of_ble_eq_true rfl) (fun h_100 hp_100 => ?_)
        have e_100 : h_100 = (sI (sI (sI (sI f (plC 3) (13 * i + j) (dp kd 3 i j)) (plC 4) (13 * i + j) (dp kd 4 i j)) (plC 0) (13 * i + j) (dp kd 0 i j)) (plC 1) (13 * i + j) (dp kd 1 i j)) := hp_100
        rw [e_100]
        have u4 : spC (sI (sI (sI (sI f (plC 3) (13 * i + j) (dp kd 3 i j)) (plC 4) (13 * i + j) (dp kd 4 i j)) (plC 0) (13 * i + j) (dp kd 0 i j)) (plC 1) (13 * i + j) (dp kd 1 i j)) kd n (fun t a b => i < a ∨ (a = i ∧ b < j) ∨ a = b ∨ (a = i ∧ b = j ∧ (t = 3 ∨ t = 4 ∨ t = 0 ∨ t = 1))) := u3.put 1 (by decide) hn0.2 hi hij hj (fun t ht a b h1 h2 h3 q => by omega)
        have r4 : Rg (sI (sI (sI (sI f (plC 3) (13 * i + j) (dp kd 3 i j)) (plC 4) (13 * i + j) (dp kd 4 i j)) (plC 0) (13 * i + j) (dp kd 0 i j)) (plC 1) (13 * i + j) (dp kd 1 i j)) := r3.sI (spC.bnd (by decide) hi hij hj hn0.2)
        refine V_aload0 G dX2_tell_103 ?_
        refine V_getR G fl_X2_27 dX2_tell_104 (by first | decide | assumption) (by first | rfl | assumption) rfl (by first | rfl | assumption) ?_
        refine V_iload2 G dX2_tell_107 ?_
        refine V_iload3 G dX2_tell_108 ?_
        refine V_aload0 G dX2_tell_109 ?_
        refine V_aload1 G dX2_tell_110 ?_
        refine V_iload2 G dX2_tell_111 ?_
        refine V_iload3 G dX2_tell_112 ?_
        refine V_cV3i (d1 := 3) G m_X2_64 dX2_tell_113 (by first | decide | assumption) (by first | rfl | assumption) (c_X2_hangingWays r4 (h := (sI (sI (sI (sI f (plC 3) (13 * i + j) (dp kd 3 i j)) (plC 4) (13 * i + j) (dp kd 4 i j)) (plC 0) (13 * i + j) (dp kd 0 i j)) (plC 1) (13 * i + j) (dp kd 1 i j))) (kd := kd) (n := n) hn0 hfn hfk hi hij hj (fun k k1 k2 => u4 0 (by decide) i k hi (by omega) (by omega) (by omega) (by omega)) (fun k k1 k2 => u4.one (t := 2) (by omega) (a := k) (b := j) (by omega) (by omega) (by omega) (fun _ => by omega))) (by omega) (by omega) (by omega) (Nat.le_of_ble_eq_true rfl) (fun x_113 h_113 hp_113 => ?_)
        rw [show x_113 = dp kd 2 i j from hp_113.1, hp_113.2]
        refine V_cV3v (d1 := 1) G m_X2_50 dX2_tell_116 (by first | decide | assumption) (by first | rfl | assumption) (c_X1_put r4 isGr_all.2.2.2.2.1 (i := i) (j := j) (v := dp kd 2 i j) (by omega) (by omega)) (by omega) (by omega) (by omega) (Nat.le_of_ble_eq_true rfl) (fun h_116 hp_116 => ?_)
        have e_116 : h_116 = (sI (sI (sI (sI (sI f (plC 3) (13 * i + j) (dp kd 3 i j)) (plC 4) (13 * i + j) (dp kd 4 i j)) (plC 0) (13 * i + j) (dp kd 0 i j)) (plC 1) (13 * i + j) (dp kd 1 i j)) (plC 2) (13 * i + j) (dp kd 2 i j)) := hp_116
        rw [e_116]
        have u5 : spC (sI (sI (sI (sI (sI f (plC 3) (13 * i + j) (dp kd 3 i j)) (plC 4) (13 * i + j) (dp kd 4 i j)) (plC 0) (13 * i + j) (dp kd 0 i j)) (plC 1) (13 * i + j) (dp kd 1 i j)) (plC 2) (13 * i + j) (dp kd 2 i j)) kd n (fun t a b => i < a ∨ (a = i ∧ b < j) ∨ a = b ∨ (a = i ∧ b = j ∧ (t = 3 ∨ t = 4 ∨ t = 0 ∨ t = 1 ∨ t = 2))) := u4.put 2 (by decide) hn0.2 hi hij hj (fun t ht a b h1 h2 h3 q => by omega)
        have r5 : Rg (sI (sI (sI (sI (sI f (plC 3) (13 * i + j) (dp kd 3 i j)) (plC 4) (13 * i + j) (dp kd 4 i j)) (plC 0) (13 * i + j) (dp kd 0 i j)) (plC 1) (13 * i + j) (dp kd 1 i j)) (plC 2) (13 * i + j) (dp kd 2 i j)) := r4.sI (spC.bnd (by decide) hi hij hj hn0.2)
        refine V_aload0 G dX2_tell_119 ?_
        refine V_getR G fl_X2_24 dX2_tell_120 (by first | decide | assumption) (by first | rfl | assumption) rfl (by first | rfl | assumption) ?_
        refine V_iload2 G dX2_tell_123 ?_
        refine V_iload3 G dX2_tell_124 ?_
        refine V_aload0 G dX2_tell_125 ?_
        refine V_aload1 G dX2_tell_126 ?_
        refine V_iload2 G dX2_tell_127 ?_
        refine V_iload3 G dX2_tell_128 ?_
        refine V_cV3i (d1 := 3) G m_X2_67 dX2_tell_129 (by first | decide | assumption) (by first | rfl | assumption) (c_X2_clauseWays r5 (h := (sI (sI (sI (sI (sI f (plC 3) (13 * i + j) (dp kd 3 i j)) (plC 4) (13 * i + j) (dp kd 4 i j)) (plC 0) (13 * i + j) (dp kd 0 i j)) (plC 1) (13 * i + j) (dp kd 1 i j)) (plC 2) (13 * i + j) (dp kd 2 i j))) (kd := kd) (n := n) hn0 hfn hfk hi hij hj (fun k k1 k2 => u5 4 (by decide) i k hi (by omega) (by omega) (by omega) (by omega)) (fun k k1 k2 => u5.one (t := 6) (by omega) (a := k) (b := j) (by omega) (by omega) (by omega) (fun _ => by omega))) (by omega) (by omega) (by omega) (Nat.le_of_ble_eq_true rfl) (fun x_129 h_129 hp_129 => ?_)
        rw [show x_129 = dp kd 5 i j from hp_129.1, hp_129.2]
        refine V_cV3v (d1 := 1) G m_X2_50 dX2_tell_132 (by first | decide | assumption) (by first | rfl | assumption) (c_X1_put r5 isGr_all.2.2.2.1 (i := i) (j := j) (v := dp kd 5 i j) (by omega) (by omega)) (by omega) (by omega) (by omega) (Nat.le_of_ble_eq_true rfl) (fun h_132 hp_132 => ?_)
        have e_132 : h_132 = (sI (sI (sI (sI (sI (sI f (plC 3) (13 * i + j) (dp kd 3 i j)) (plC 4) (13 * i + j) (dp kd 4 i j)) (plC 0) (13 * i + j) (dp kd 0 i j)) (plC 1) (13 * i + j) (dp kd 1 i j)) (plC 2) (13 * i + j) (dp kd 2 i j)) (plC 5) (13 * i + j) (dp kd 5 i j)) := hp_132
        rw [e_132]
        have u6 : spC (sI (sI (sI (sI (sI (sI f (plC 3) (13 * i + j) (dp kd 3 i j)) (plC 4) (13 * i + j) (dp kd 4 i j)) (plC 0) (13 * i + j) (dp kd 0 i j)) (plC 1) (13 * i + j) (dp kd 1 i j)) (plC 2) (13 * i + j) (dp kd 2 i j)) (plC 5) (13 * i + j) (dp kd 5 i j)) kd n (fun t a b => i < a ∨ (a = i ∧ b < j) ∨ a = b ∨ (a = i ∧ b = j ∧ (t = 3 ∨ t = 4 ∨ t = 0 ∨ t = 1 ∨ t = 2 ∨ t = 5))) := u5.put 5 (by decide) hn0.2 hi hij hj (fun t ht a b h1 h2 h3 q => by omega)
        have r6 : Rg (sI (sI (sI (sI (sI (sI f (plC 3) (13 * i + j) (dp kd 3 i j)) (plC 4) (13 * i + j) (dp kd 4 i j)) (plC 0) (13 * i + j) (dp kd 0 i j)) (plC 1) (13 * i + j) (dp kd 1 i j)) (plC 2) (13 * i + j) (dp kd 2 i j)) (plC 5) (13 * i + j) (dp kd 5 i j)) := r5.sI (spC.bnd (by decide) hi hij hj hn0.2)
        refine V_aload0 G dX2_tell_135 ?_
        refine V_getR G fl_X2_33 dX2_tell_136 (by first | decide | assumption) (by first | rfl | assumption) rfl (by first | rfl | assumption) ?_
        refine V_iload2 G dX2_tell_139 ?_
        refine V_iload3 G dX2_tell_140 ?_
        refine V_aload0 G dX2_tell_141 ?_
        refine V_aload1 G dX2_tell_142 ?_
        refine V_iload2 G dX2_tell_143 ?_
        refine V_iload3 G dX2_tell_144 ?_
        refine V_cV3i (d1 := 3) G m_X2_70 dX2_tell_145 (by first | decide | assumption) (by first | rfl | assumption) (c_X2_verbTailWays r6 (h := (sI (sI (sI (sI (sI (sI f (plC 3) (13 * i + j) (dp kd 3 i j)) (plC 4) (13 * i + j) (dp kd 4 i j)) (plC 0) (13 * i + j) (dp kd 0 i j)) (plC 1) (13 * i + j) (dp kd 1 i j)) (plC 2) (13 * i + j) (dp kd 2 i j)) (plC 5) (13 * i + j) (dp kd 5 i j))) (kd := kd) (n := n) hn0 hfn hfk hi hij hj (u6 2 (by decide) i j hi (by omega) (by omega) (by omega) (by omega)) (fun k k1 k2 => u6 4 (by decide) i k hi (by omega) (by omega) (by omega) (by omega)) (fun k k1 k2 => u6 5 (by decide) (i + 1) k (by omega) (by omega) (by omega) (by omega) (by omega)) (fun k k1 k2 => u6.one (t := 2) (by omega) (a := k) (b := j) (by omega) (by omega) (by omega) (fun _ => by omega))) (by omega) (by omega) (by omega) (Nat.le_of_ble_eq_true rfl) (fun x_145 h_145 hp_145 => ?_)
        rw [show x_145 = dp kd 6 i j from hp_145.1, hp_145.2]
        refine V_cV3v (d1 := 1) G m_X2_50 dX2_tell_148 (by first | decide | assumption) (by first | rfl | assumption) (c_X1_put r6 isGr_all.2.2.2.2.2.2 (i := i) (j := j) (v := dp kd 6 i j) (by omega) (by omega)) (by omega) (by omega) (by omega) (Nat.le_of_ble_eq_true rfl) (fun h_148 hp_148 => ?_)
        have e_148 : h_148 = (sI (sI (sI (sI (sI (sI (sI f (plC 3) (13 * i + j) (dp kd 3 i j)) (plC 4) (13 * i + j) (dp kd 4 i j)) (plC 0) (13 * i + j) (dp kd 0 i j)) (plC 1) (13 * i + j) (dp kd 1 i j)) (plC 2) (13 * i + j) (dp kd 2 i j)) (plC 5) (13 * i + j) (dp kd 5 i j)) (plC 6) (13 * i + j) (dp kd 6 i j)) := hp_148
        rw [e_148]
        have u7 : spC (sI (sI (sI (sI (sI (sI (sI f (plC 3) (13 * i + j) (dp kd 3 i j)) (plC 4) (13 * i + j) (dp kd 4 i j)) (plC 0) (13 * i + j) (dp kd 0 i j)) (plC 1) (13 * i + j) (dp kd 1 i j)) (plC 2) (13 * i + j) (dp kd 2 i j)) (plC 5) (13 * i + j) (dp kd 5 i j)) (plC 6) (13 * i + j) (dp kd 6 i j)) kd n (fun t a b => i < a ∨ (a = i ∧ b < j) ∨ a = b ∨ (a = i ∧ b = j ∧ (t = 3 ∨ t = 4 ∨ t = 0 ∨ t = 1 ∨ t = 2 ∨ t = 5 ∨ t = 6))) := u6.put 6 (by decide) hn0.2 hi hij hj (fun t ht a b h1 h2 h3 q => by omega)
        have r7 : Rg (sI (sI (sI (sI (sI (sI (sI f (plC 3) (13 * i + j) (dp kd 3 i j)) (plC 4) (13 * i + j) (dp kd 4 i j)) (plC 0) (13 * i + j) (dp kd 0 i j)) (plC 1) (13 * i + j) (dp kd 1 i j)) (plC 2) (13 * i + j) (dp kd 2 i j)) (plC 5) (13 * i + j) (dp kd 5 i j)) (plC 6) (13 * i + j) (dp kd 6 i j)) := r6.sI (spC.bnd (by decide) hi hij hj hn0.2)
        refine V_iinc3 G dX2_tell_151 rfl ?_
        refine V_goto G dX2_tell_154 (tgt := 15) (by decide) ?_
        exact ih (j + 1) (sI (sI (sI (sI (sI (sI (sI f (plC 3) (13 * i + j) (dp kd 3 i j)) (plC 4) (13 * i + j) (dp kd 4 i j)) (plC 0) (13 * i + j) (dp kd 0 i j)) (plC 1) (13 * i + j) (dp kd 1 i j)) (plC 2) (13 * i + j) (dp kd 2 i j)) (plC 5) (13 * i + j) (dp kd 5 i j)) (plC 6) (13 * i + j) (dp kd 6 i j)) (by omega) (by omega) r7 (((((((ef.st rfl).st rfl).st rfl).st rfl).st rfl).st rfl).st rfl) (((((((zf.put hi hij (by omega)).put hi hij (by omega)).put hi hij (by omega)).put hi hij (by omega)).put hi hij (by omega)).put hi hij (by omega)).put hi hij (by omega)) (fun t ht a b h1 h2 h3 h4 q => u7 t ht a b h1 h2 h3 h4 (by omega))
      refine V_iload3 G dX2_tell_15 ?_
      refine V_aload1 G dX2_tell_16 ?_
      refine V_cV0i (d1 := 1) G m_X2_40 dX2_tell_17 (by first | decide | assumption) (by first | rfl | assumption) (c_X4_size isSt_all.1) (by omega) (by omega) (by omega) (Nat.le_of_ble_eq_true rfl) (fun x_17 h_17 hp_17 => ?_)
      rw [show x_17 = n from hp_17.1.trans hfn, hp_17.2]
      refine V_icmpgt G dX2_tell_20 (tgt := 157) (by decide) (by first | exact r _ _ | assumption | exact ⟨by omega, by omega⟩) (by first | exact r _ _ | assumption | exact ⟨by omega, by omega⟩) (fun c_20 => ?_) (fun c_20 => ?_)
      · omega
      ·
        refine V_aload0 G dX2_tell_23 ?_
        refine V_getR G fl_X2_12 dX2_tell_24 (by first | decide | assumption) (by first | rfl | assumption) rfl (by first | rfl | assumption) ?_
        refine V_iload2 G dX2_tell_27 ?_
        refine V_iload3 G dX2_tell_28 ?_
        refine V_aload0 G dX2_tell_29 ?_
        refine V_aload1 G dX2_tell_30 ?_
        refine V_iload2 G dX2_tell_31 ?_
        refine V_iload3 G dX2_tell_32 ?_
        refine V_cV3i (d1 := 3) G m_X2_46 dX2_tell_33 (by first | decide | assumption) (by first | rfl | assumption) (c_X2_nameWays r0 (kd := kd) (n := n) hn0 hfn hfk hi hij hj (u0 3 (by decide) (i + 1) j (by omega) (by omega) (by omega) (by omega) (by omega)) (u0.one (t := 1) (by omega) (a := i + 1) (b := j) (by omega) (by omega) (by omega) (fun _ => by omega))) (by omega) (by omega) (by omega) (Nat.le_of_ble_eq_true rfl) (fun x_33 h_33 hp_33 => ?_)
        rw [show x_33 = dp kd 3 i j from hp_33.1, hp_33.2]
        refine V_cV3v (d1 := 1) G m_X2_50 dX2_tell_36 (by first | decide | assumption) (by first | rfl | assumption) (c_X1_put r0 isGr_all.1 (i := i) (j := j) (v := dp kd 3 i j) (by omega) (by omega)) (by omega) (by omega) (by omega) (Nat.le_of_ble_eq_true rfl) (fun h_36 hp_36 => ?_)
        have e_36 : h_36 = (sI f (plC 3) (13 * i + j) (dp kd 3 i j)) := hp_36
        rw [e_36]
        have u1 : spC (sI f (plC 3) (13 * i + j) (dp kd 3 i j)) kd n (fun t a b => i < a ∨ (a = i ∧ b < j) ∨ a = b ∨ (a = i ∧ b = j ∧ (t = 3))) := u0.put 3 (by decide) hn0.2 hi hij hj (fun t ht a b h1 h2 h3 q => by omega)
        have r1 : Rg (sI f (plC 3) (13 * i + j) (dp kd 3 i j)) := r0.sI (spC.bnd (by decide) hi hij hj hn0.2)
        refine V_aload0 G dX2_tell_39 ?_
        refine V_getR G fl_X2_18 dX2_tell_40 (by first | decide | assumption) (by first | rfl | assumption) rfl (by first | rfl | assumption) ?_
        refine V_iload2 G dX2_tell_43 ?_
        refine V_iload3 G dX2_tell_44 ?_
        refine V_aload0 G dX2_tell_45 ?_
        refine V_aload1 G dX2_tell_46 ?_
        refine V_iload2 G dX2_tell_47 ?_
        refine V_iload3 G dX2_tell_48 ?_
        refine V_cV3i (d1 := 3) G m_X2_54 dX2_tell_49 (by first | decide | assumption) (by first | rfl | assumption) (c_X2_groupWays r1 (h := (sI f (plC 3) (13 * i + j) (dp kd 3 i j))) (kd := kd) (n := n) hn0 hfn hfk hi hij hj (fun a b q1 q2 q3 q4 => u1 3 (by decide) a b (by omega) q2 (by omega) (by omega) (by omega))) (by omega) (by omega) (by omega) (Nat.le_of_ble_eq_true rfl) (fun x_49 h_49 hp_49 => ?_)
        rw [show x_49 = dp kd 4 i j from hp_49.1, hp_49.2]
        refine V_cV3v (d1 := 1) G m_X2_50 dX2_tell_52 (by first | decide | assumption) (by first | rfl | assumption) (c_X1_put r1 isGr_all.2.1 (i := i) (j := j) (v := dp kd 4 i j) (by omega) (by omega)) (by omega) (by omega) (by omega) (Nat.le_of_ble_eq_true rfl) (fun h_52 hp_52 => ?_)
        have e_52 : h_52 = (sI (sI f (plC 3) (13 * i + j) (dp kd 3 i j)) (plC 4) (13 * i + j) (dp kd 4 i j)) := hp_52
        rw [e_52]
        have u2 : spC (sI (sI f (plC 3) (13 * i + j) (dp kd 3 i j)) (plC 4) (13 * i + j) (dp kd 4 i j)) kd n (fun t a b => i < a ∨ (a = i ∧ b < j) ∨ a = b ∨ (a = i ∧ b = j ∧ (t = 3 ∨ t = 4))) := u1.put 4 (by decide) hn0.2 hi hij hj (fun t ht a b h1 h2 h3 q => by omega)
        have r2 : Rg (sI (sI f (plC 3) (13 * i + j) (dp kd 3 i j)) (plC 4) (13 * i + j) (dp kd 4 i j)) := r1.sI (spC.bnd (by decide) hi hij hj hn0.2)
        refine V_aload0 G dX2_tell_55 ?_
        refine V_getR G fl_X2_21 dX2_tell_56 (by first | decide | assumption) (by first | rfl | assumption) rfl (by first | rfl | assumption) ?_
        refine V_iload2 G dX2_tell_59 ?_
        refine V_iload3 G dX2_tell_60 ?_
        refine V_aload1 G dX2_tell_61 ?_
        refine V_iload2 G dX2_tell_62 ?_
        refine V_cV1i (d1 := 2) G m_X2_57 dX2_tell_63 (by first | decide | assumption) (by first | rfl | assumption) (c_X4_kindAt (h := (sI (sI f (plC 3) (13 * i + j) (dp kd 3 i j)) (plC 4) (13 * i + j) (dp kd 4 i j))) isSt_all.1 (n := n) (w := i) hfn hn0 ⟨by omega, by omega⟩) (by omega) (by omega) (by omega) (Nat.le_of_ble_eq_true rfl) (fun x_63 h_63 hp_63 => ?_)
        rw [show x_63 = kd i by rw [hp_63.1]; unfold kdC; rw [if_pos (by omega)]; exact (hfk _ (by omega) (by omega)).1, hp_63.2]
        have kr_63 := (hfk i (by omega) (by omega)).2
        refine V_iconst G dX2_tell_66 ?_
        refine V_icmpne G dX2_tell_67 (tgt := 84) (by decide) (by first | exact r _ _ | assumption | exact ⟨by omega, by omega⟩) (by first | exact r _ _ | assumption | exact ⟨by omega, by omega⟩) (fun c_67 => ?_) (fun c_67 => ?_)
        ·
          refine V_iconst G dX2_tell_84 ?_
          first
          | (rw [dp_0 (kd := kd) (i := i) (j := j) (by omega), if_pos (by omega)] at tail; exact tail)
          | (rw [dp_0 (kd := kd) (i := i) (j := j) (by omega), if_neg (by omega)] at tail; exact tail)
        ·
          refine V_aload0 G dX2_tell_70 ?_
          refine V_getR G fl_X2_18 dX2_tell_71 (by first | decide | assumption) (by first | rfl | assumption) rfl (by first | rfl | assumption) ?_
          refine V_iload2 G dX2_tell_74 ?_
          refine V_iconst G dX2_tell_75 ?_
          refine V_iadd G dX2_tell_76 ?_
          refine V_iload3 G dX2_tell_77 ?_
          refine V_cV2i (d1 := 1) G m_X2_36 dX2_tell_78 (by first | decide | assumption) (by first | rfl | assumption) (c_X1_at r2 isGr_all.2.1 (i := i + 1) (j := j) (by omega) (by omega)) (by omega) (by omega) (by omega) (Nat.le_of_ble_eq_true rfl) (fun x_78 h_78 hp_78 => ?_)
          rw [show x_78 = dp kd 4 (i + 1) j from hp_78.1.trans (u2 4 (by decide) (i + 1) j (by omega) (by omega) (by omega) (by omega) (by omega)), hp_78.2]
          refine V_goto G dX2_tell_81 (tgt := 85) (by decide) ?_
          first
          | (rw [dp_0 (kd := kd) (i := i) (j := j) (by omega), if_pos (by omega)] at tail; exact tail)
          | (rw [dp_0 (kd := kd) (i := i) (j := j) (by omega), if_neg (by omega)] at tail; exact tail)
  have out : ∀ (mO : Nat), (mO : Int) ≤ n → ∀ (i : Int) (f : Hp) (a3 : Option Value), i + 1 = (mO : Int) → Rg f → eqx SPC h f → zrC f → spC f kd n (fun t a b => i < a ∨ a = b) → V X 0 0 7 [some (.ref 8), some (.ref 1), some (.int (Int32.ofInt i)), a3] [] f := by
    intro mO
    induction mO with
    | zero =>
      intro hmn i f a3 him r0 ef zf u0
      refine V_iload2 G dX2_tell_7 ?_
      refine V_iflt G dX2_tell_8 (tgt := 163) (by decide) ⟨by omega, by omega⟩ (fun c_8 => ?_) (fun c_8 => ?_)
      ·
        exact V_retv E dX2_tell_163 rfl ⟨rfl, ef, r0, zf, fun t ht a b h1 h2 h3 h4 _ => u0 t ht a b h1 h2 h3 h4 (by omega)⟩
      · omega
    | succ mO ihO =>
      intro hmn i f a3 him r0 ef zf u0
      refine V_iload2 G dX2_tell_7 ?_
      refine V_iflt G dX2_tell_8 (tgt := 163) (by decide) ⟨by omega, by omega⟩ (fun c_8 => ?_) (fun c_8 => ?_)
      · omega
      ·
        refine V_iload2 G dX2_tell_11 ?_
        refine V_iconst G dX2_tell_12 ?_
        refine V_iadd G dX2_tell_13 ?_
        refine V_istore3 G dX2_tell_14 rfl ?_
        exact inn mO (ihO (by omega)) i (by omega) (by omega) (n - i).toNat (i + 1) f (by omega) (by omega) r0 ef zf (fun t ht a b h1 h2 h3 h4 q => u0 t ht a b h1 h2 h3 h4 (by omega))
  refine V_aload1 G dX2_tell_0 ?_
  refine V_cV0i (d1 := 1) G m_X2_40 dX2_tell_1 (by first | decide | assumption) (by first | rfl | assumption) (c_X4_size isSt_all.1) (by omega) (by omega) (by omega) (Nat.le_of_ble_eq_true rfl) (fun x_1 h_1 hp_1 => ?_)
  rw [show x_1 = n from hp_1.1.trans hn, hp_1.2]
  refine V_iconst G dX2_tell_4 ?_
  refine V_isub G dX2_tell_5 ?_
  refine V_istore2 G dX2_tell_6 rfl ?_
  exact out n.toNat (by omega) (n - 1) h _ (by omega) r eqx.rf z0 (fun t ht a b h1 h2 h3 h4 q => by
    have e : a = b := by omega
    subst e
    rw [z0 t ht a h1 (by omega), dp_diag (by omega)])

end C2
