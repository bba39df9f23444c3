
section M8
def sumF (f : Int → Int) : Nat → Int → Int
  | 0, _ => 0
  | m + 1, k => f k + sumF f m (k + 1)
def mnF (f : Int → Int) : Nat → Int → Int → Int
  | 0, _, a => a
  | m + 1, k, a => mnF f m (k + 1) (if f k < a then f k else a)
def mxF (f : Int → Int) : Nat → Int → Int → Int
  | 0, _, a => a
  | m + 1, k, a => mxF f m (k + 1) (if a < f k then f k else a)
theorem sumF_le {f : Int → Int} {b : Int} (hb : 0 ≤ b) : ∀ (m : Nat) (k : Int), (∀ j, 0 ≤ f j ∧ f j ≤ b) → 0 ≤ sumF f m k ∧ sumF f m k ≤ b * m
  | 0, _, _ => by simp [sumF]
  | m + 1, k, h => by
    have ih := sumF_le hb m (k + 1) h
    have hk := h k
    rw [sumF, show ((m + 1 : Nat) : Int) = (m : Int) + 1 by omega, Int.mul_add]
    omega
theorem mnF_r {f : Int → Int} {a b : Int} : ∀ (m : Nat) (k c : Int), (∀ j, k ≤ j → j < k + m → a ≤ f j ∧ f j ≤ b) → a ≤ c ∧ c ≤ b → a ≤ mnF f m k c ∧ mnF f m k c ≤ b
  | 0, _, _, _, h => h
  | m + 1, k, c, h, hc => by
    rw [mnF]
    refine mnF_r m (k + 1) _ (fun j h1 h2 => h j (by omega) (by omega)) ?_
    have := h k (by omega) (by omega)
    split <;> omega
theorem mxF_r {f : Int → Int} {a b : Int} : ∀ (m : Nat) (k c : Int), (∀ j, k ≤ j → j < k + m → a ≤ f j ∧ f j ≤ b) → a ≤ c ∧ c ≤ b → a ≤ mxF f m k c ∧ mxF f m k c ≤ b
  | 0, _, _, _, h => h
  | m + 1, k, c, h, hc => by
    rw [mxF]
    refine mxF_r m (k + 1) _ (fun j h1 h2 => h j (by omega) (by omega)) ?_
    have := h k (by omega) (by omega)
    split <;> omega
def heldF (kd hd : Int → Int) (w : Int) : Int := if hd w = -1 then 0 else if kd w = 0 then (if kd (hd w) = 5 then 4 else if kd (hd w) = 4 then 6 else if w < hd w then 1 else 2) else if kd w = 1 ∨ kd w = 6 then 5 else if kd w = 5 then 4 else 3
def stepF (kd hd : Int → Int) (w : Int) : Int := if heldF kd hd w = 3 ∨ heldF kd hd w = 6 then -1 else if kd w = 6 then 1 else 0
def levF (kd hd : Int → Int) : Nat → Int → Int
  | 0, _ => 0
  | m + 1, w => if hd w = -1 then 0 else stepF kd hd w + levF kd hd m (hd w)
def reachF (hd : Int → Int) : Nat → Int → Prop
  | 0, w => hd w = -1
  | m + 1, w => hd w = -1 ∨ reachF hd m (hd w)
def rok (n : Int) (hd : Int → Int) : Prop := ∀ w, 0 ≤ w → w < n → -1 ≤ hd w ∧ hd w < n
def rtd (n : Int) (hd : Int → Int) : Prop := ∀ w, 0 ≤ w → w < n → reachF hd 11 w
theorem heldF_r (kd hd : Int → Int) (w : Int) : 0 ≤ heldF kd hd w ∧ heldF kd hd w ≤ 6 := by
  unfold heldF
  repeat' split
  all_goals omega
theorem stepF_r (kd hd : Int → Int) (w : Int) : -1 ≤ stepF kd hd w ∧ stepF kd hd w ≤ 1 := by
  unfold stepF
  repeat' split
  all_goals omega
theorem levF_r (kd hd : Int → Int) : ∀ (m : Nat) (w : Int), -(m : Int) ≤ levF kd hd m w ∧ levF kd hd m w ≤ m
  | 0, w => by simp [levF]
  | m + 1, w => by
    have h1 := levF_r kd hd m (hd w)
    have h2 := stepF_r kd hd w
    rw [levF]
    split <;> omega

set_option maxRecDepth 100000 in
set_option maxHeartbeats 4000000 in
theorem c_X7_head {l : Launch} {d : Nat} {h : Hp} {k1 : Int} (hk1 : 0 ≤ k1 ∧ k1 < 400) {w : Int} (hw : 0 ≤ w ∧ w < 12) (hd : 1 ≤ d := by omega) : CP l d 0 0 yX7_head cX7_head 3 (Option.some Jvm.ClassFile.FieldType.int) [.ref 77, iv k1, iv w] h (pI fun x h1 => x = hI h 89 (12 * k1 + w) ∧ h1 = h) := by
  refine CP.ofV (L := [some (.ref 77), some (.int (Int32.ofInt k1)), some (.int (Int32.ofInt w))]) RX7 (by decide +kernel) rfl (Nat.le_of_ble_eq_true rfl) rfl (fun X hX G E => ?_)
  subst hX
  refine V_aload0 G dX7_head_0 ?_
  refine V_getR G fl_X7_44 dX7_head_1 (by first | decide | assumption) (by first | rfl | assumption) rfl (by first | rfl | assumption) ?_
  refine V_bipush G dX7_head_4 (by decide) ?_
  refine V_iload1 G dX7_head_6 ?_
  refine V_imul G dX7_head_7 ?_
  refine V_iload2 G dX7_head_8 ?_
  refine V_iadd G dX7_head_9 ?_
  refine V_ialde G dX7_head_10 (by first | decide | assumption) (by first | rfl | assumption) (by decide) ⟨by omega, by omega⟩ (by first | (simp only [hI_sI, hI_sL, hL_sI, hL_sL, false_and, true_and, and_false, and_true, and_self, if_false, if_true]; first | done | rfl) | rfl) ?_
  exact V_reti E dX7_head_11 rfl rfl ⟨_, rfl, ⟨rfl, rfl⟩⟩

set_option maxRecDepth 100000 in
set_option maxHeartbeats 4000000 in
theorem c_X7_isWord {l : Launch} {d : Nat} {h : Hp} (r : Rg h) {n : Int} (hn : hI h 78 0 = n) (hn0 : 0 ≤ n ∧ n ≤ 12) {w : Int} (hw : inr w) (hd : 2 ≤ d := by omega) : CP l d 0 0 yX7_isWord cX7_isWord 2 (Option.some Jvm.ClassFile.FieldType.boolean) [.ref 77, iv w] h (pI fun x h1 => x = bI (0 ≤ w ∧ w < n) ∧ h1 = h) := by
  refine CP.ofV (L := [some (.ref 77), some (.int (Int32.ofInt w))]) RX7 (by decide +kernel) rfl (Nat.le_of_ble_eq_true rfl) rfl (fun X hX G E => ?_)
  subst hX
  refine V_iload1 G dX7_isWord_0 ?_
  refine V_iconst G dX7_isWord_1 ?_
  refine V_aload0 G dX7_isWord_2 ?_
  refine V_getR G fl_X7_7 dX7_isWord_3 (by first | decide | assumption) (by first | rfl | assumption) rfl (by first | rfl | assumption) ?_
  refine V_iconst G dX7_isWord_6 ?_
  refine V_ialde G dX7_isWord_7 (by first | decide | assumption) (by first | rfl | assumption) (by decide) ⟨by omega, by omega⟩ (by first | (simp only [hI_sI, hI_sL, hL_sI, hL_sL, false_and, true_and, and_false, and_true, and_self, if_false, if_true, hn]; first | done | rfl) | rfl) ?_
  refine V_iconst G dX7_isWord_8 ?_
  refine V_isub G dX7_isWord_9 ?_
  refine V_cS3i (d1 := 1) G m_X7_72 dX7_isWord_10 (c_X7_in (v := w) (a := 0) (b := n - 1) hw ⟨by omega, by omega⟩ ⟨by omega, by omega⟩) (by omega) (by omega) (by omega) (Nat.le_of_ble_eq_true rfl) (fun x_10 h_10 hp_10 => ?_)
  rw [hp_10.1, hp_10.2]
  exact V_reti E dX7_isWord_13 rfl (nar01 (by unfold bI; split <;> simp)) ⟨_, rfl, ⟨bI_c ⟨fun z => by omega, fun z => by omega⟩, rfl⟩⟩

set_option maxRecDepth 100000 in
set_option maxHeartbeats 4000000 in
theorem c_X7_isHead {l : Launch} {d : Nat} {h : Hp} (r : Rg h) {n : Int} (hn : hI h 78 0 = n) (hn0 : 0 ≤ n ∧ n ≤ 12) {w hd1 : Int} (hw : inr w) (hh : inr hd1) (hd : 2 ≤ d := by omega) : CP l d 0 0 yX7_isHead cX7_isHead 3 (Option.some Jvm.ClassFile.FieldType.boolean) [.ref 77, iv w, iv hd1] h (pI fun x h1 => x = bI (-1 ≤ hd1 ∧ hd1 < n ∧ hd1 ≠ w) ∧ h1 = h) := by
  refine CP.ofV (L := [some (.ref 77), some (.int (Int32.ofInt w)), some (.int (Int32.ofInt hd1))]) RX7 (by decide +kernel) rfl (Nat.le_of_ble_eq_true rfl) rfl (fun X hX G E => ?_)
  subst hX
  refine V_iload2 G dX7_isHead_0 ?_
  refine V_iconst G dX7_isHead_1 ?_
  refine V_aload0 G dX7_isHead_2 ?_
  refine V_getR G fl_X7_7 dX7_isHead_3 (by first | decide | assumption) (by first | rfl | assumption) rfl (by first | rfl | assumption) ?_
  refine V_iconst G dX7_isHead_6 ?_
  refine V_ialde G dX7_isHead_7 (by first | decide | assumption) (by first | rfl | assumption) (by decide) ⟨by omega, by omega⟩ (by first | (simp only [hI_sI, hI_sL, hL_sI, hL_sL, false_and, true_and, and_false, and_true, and_self, if_false, if_true, hn]; first | done | rfl) | rfl) ?_
  refine V_iconst G dX7_isHead_8 ?_
  refine V_isub G dX7_isHead_9 ?_
  refine V_cS3i (d1 := 1) G m_X7_72 dX7_isHead_10 (c_X7_in (v := hd1) (a := -1) (b := n - 1) hh ⟨by omega, by omega⟩ ⟨by omega, by omega⟩) (by omega) (by omega) (by omega) (Nat.le_of_ble_eq_true rfl) (fun x_10 h_10 hp_10 => ?_)
  rw [hp_10.1, hp_10.2]
  refine V_ifeqB G dX7_isHead_13 (tgt := 25) (by decide)  (fun c_13 => ?_) (fun c_13 => ?_)
  ·
    refine V_iconst G dX7_isHead_25 ?_
    exact V_reti E dX7_isHead_26 rfl rfl ⟨_, rfl, ⟨by first | exact bI_t (by omega) | exact bI_f (by omega), rfl⟩⟩
  ·
    refine V_iload2 G dX7_isHead_16 ?_
    refine V_iload1 G dX7_isHead_17 ?_
    refine V_icmpeq G dX7_isHead_18 (tgt := 25) (by decide) (by first | exact r _ _ | assumption | exact ⟨by omega, by omega⟩) (by first | exact r _ _ | assumption | exact ⟨by omega, by omega⟩) (fun c_18 => ?_) (fun c_18 => ?_)
    ·
      refine V_iconst G dX7_isHead_25 ?_
      exact V_reti E dX7_isHead_26 rfl rfl ⟨_, rfl, ⟨by first | exact bI_t (by omega) | exact bI_f (by omega), rfl⟩⟩
    ·
      refine V_iconst G dX7_isHead_21 ?_
      refine V_goto G dX7_isHead_22 (tgt := 26) (by decide) ?_
      exact V_reti E dX7_isHead_26 rfl rfl ⟨_, rfl, ⟨by first | exact bI_t (by omega) | exact bI_f (by omega), rfl⟩⟩

set_option maxRecDepth 100000 in
set_option maxHeartbeats 4000000 in
theorem c_X7_heldBy {l : Launch} {d : Nat} {h : Hp} (r : Rg h) {n : Int} (hn : hI h 78 0 = n) (hn0 : 0 ≤ n ∧ n ≤ 12) (hk : ∀ w, 0 ≤ w → w < n → 0 ≤ hI h 78 (2 + w) ∧ hI h 78 (2 + w) ≤ 6) {k1 : Int} (hk1 : 0 ≤ k1 ∧ k1 < 400) (hr : rok n (fun w => hI h 89 (12 * k1 + w))) {w : Int} (hw : 0 ≤ w ∧ w < n) (hd : 2 ≤ d := by omega) : CP l d 0 0 yX7_heldBy cX7_heldBy 4 (Option.some Jvm.ClassFile.FieldType.int) [.ref 77, iv k1, iv w] h (pI fun x h1 => x = heldF (fun w => hI h 78 (2 + w)) (fun w => hI h 89 (12 * k1 + w)) w ∧ h1 = h) := by
  refine CP.ofV (L := [some (.ref 77), some (.int (Int32.ofInt k1)), some (.int (Int32.ofInt w)), none]) RX7 (by decide +kernel) rfl (Nat.le_of_ble_eq_true rfl) rfl (fun X hX G E => ?_)
  subst hX
  have hv := hr w hw.1 hw.2
  dsimp only at hv
  have hkw := hk w hw.1 hw.2
  refine V_aload0 G dX7_heldBy_0 ?_
  refine V_iload1 G dX7_heldBy_1 ?_
  refine V_iload2 G dX7_heldBy_2 ?_
  refine V_cV2i (d1 := 1) G m_X7_148 dX7_heldBy_3 (by first | decide | assumption) (by first | rfl | assumption) (c_X7_head hk1 (by omega)) (by omega) (by omega) (by omega) (Nat.le_of_ble_eq_true rfl) (fun x_3 h_3 hp_3 => ?_)
  rw [hp_3.1, hp_3.2]
  refine V_istore3 G dX7_heldBy_6 rfl ?_
  refine V_iload3 G dX7_heldBy_7 ?_
  refine V_iconst G dX7_heldBy_8 ?_
  refine V_icmpne G dX7_heldBy_9 (tgt := 14) (by decide) (by first | exact r _ _ | assumption | exact ⟨by omega, by omega⟩) (by first | exact r _ _ | assumption | exact ⟨by omega, by omega⟩) (fun c_9 => ?_) (fun c_9 => ?_)
  ·
    refine V_aload0 G dX7_heldBy_14 ?_
    refine V_iload2 G dX7_heldBy_15 ?_
    refine V_cV1i (d1 := 1) G m_X7_86 dX7_heldBy_16 (by first | decide | assumption) (by first | rfl | assumption) (c_X7_kind (by omega)) (by omega) (by omega) (by omega) (Nat.le_of_ble_eq_true rfl) (fun x_16 h_16 hp_16 => ?_)
    rw [hp_16.1, hp_16.2]
    rcases (show hI h 78 (2 + w) = 0 ∨ hI h 78 (2 + w) = 1 ∨ hI h 78 (2 + w) = 2 ∨ hI h 78 (2 + w) = 3 ∨ hI h 78 (2 + w) = 4 ∨ hI h 78 (2 + w) = 5 ∨ hI h 78 (2 + w) = 6 by omega) with e_19 | e_19 | e_19 | e_19 | e_19 | e_19 | e_19
    · rw [e_19]
      refine V_tableIn G dX7_heldBy_19 (tgt := 60) ⟨by decide, by decide⟩ (by decide) (by decide) rfl (by decide) ?_
      refine V_aload0 G dX7_heldBy_60 ?_
      refine V_iload3 G dX7_heldBy_61 ?_
      refine V_cV1i (d1 := 1) G m_X7_86 dX7_heldBy_62 (by first | decide | assumption) (by first | rfl | assumption) (c_X7_kind (by omega)) (by omega) (by omega) (by omega) (Nat.le_of_ble_eq_true rfl) (fun x_62 h_62 hp_62 => ?_)
      rw [hp_62.1, hp_62.2]
      refine V_iconst G dX7_heldBy_65 ?_
      refine V_icmpne G dX7_heldBy_66 (tgt := 73) (by decide) (by first | exact r _ _ | assumption | exact ⟨by omega, by omega⟩) (by first | exact r _ _ | assumption | exact ⟨by omega, by omega⟩) (fun c_66 => ?_) (fun c_66 => ?_)
      ·
        refine V_aload0 G dX7_heldBy_73 ?_
        refine V_iload3 G dX7_heldBy_74 ?_
        refine V_cV1i (d1 := 1) G m_X7_86 dX7_heldBy_75 (by first | decide | assumption) (by first | rfl | assumption) (c_X7_kind (by omega)) (by omega) (by omega) (by omega) (Nat.le_of_ble_eq_true rfl) (fun x_75 h_75 hp_75 => ?_)
        rw [hp_75.1, hp_75.2]
        refine V_iconst G dX7_heldBy_78 ?_
        refine V_icmpne G dX7_heldBy_79 (tgt := 87) (by decide) (by first | exact r _ _ | assumption | exact ⟨by omega, by omega⟩) (by first | exact r _ _ | assumption | exact ⟨by omega, by omega⟩) (fun c_79 => ?_) (fun c_79 => ?_)
        ·
          refine V_iload2 G dX7_heldBy_87 ?_
          refine V_iload3 G dX7_heldBy_88 ?_
          refine V_icmpge G dX7_heldBy_89 (tgt := 96) (by decide) (by first | exact r _ _ | assumption | exact ⟨by omega, by omega⟩) (by first | exact r _ _ | assumption | exact ⟨by omega, by omega⟩) (fun c_89 => ?_) (fun c_89 => ?_)
          ·
            refine V_iconst G dX7_heldBy_96 ?_
            exact V_reti E dX7_heldBy_97 rfl rfl ⟨_, rfl, ⟨by unfold heldF; dsimp only; first | (rw [if_pos (by omega)]; done) | (rw [if_neg (by omega)]; first | (rw [if_pos (by omega)]; first | (rw [if_pos (by omega)]; done) | (rw [if_neg (by omega), if_pos (by omega)]; done) | (rw [if_neg (by omega), if_neg (by omega), if_pos (by omega)]; done) | (rw [if_neg (by omega), if_neg (by omega), if_neg (by omega)]; done)) | (rw [if_neg (by omega), if_pos (by omega)]; done) | (rw [if_neg (by omega), if_neg (by omega), if_pos (by omega)]; done) | (rw [if_neg (by omega), if_neg (by omega), if_neg (by omega)]; done)), rfl⟩⟩
          ·
            refine V_iconst G dX7_heldBy_92 ?_
            refine V_goto G dX7_heldBy_93 (tgt := 97) (by decide) ?_
            exact V_reti E dX7_heldBy_97 rfl rfl ⟨_, rfl, ⟨by unfold heldF; dsimp only; first | (rw [if_pos (by omega)]; done) | (rw [if_neg (by omega)]; first | (rw [if_pos (by omega)]; first | (rw [if_pos (by omega)]; done) | (rw [if_neg (by omega), if_pos (by omega)]; done) | (rw [if_neg (by omega), if_neg (by omega), if_pos (by omega)]; done) | (rw [if_neg (by omega), if_neg (by omega), if_neg (by omega)]; done)) | (rw [if_neg (by omega), if_pos (by omega)]; done) | (rw [if_neg (by omega), if_neg (by omega), if_pos (by omega)]; done) | (rw [if_neg (by omega), if_neg (by omega), if_neg (by omega)]; done)), rfl⟩⟩
        ·
          refine V_bipush G dX7_heldBy_82 (by decide) ?_
          refine V_goto G dX7_heldBy_84 (tgt := 97) (by decide) ?_
          exact V_reti E dX7_heldBy_97 rfl rfl ⟨_, rfl, ⟨by unfold heldF; dsimp only; first | (rw [if_pos (by omega)]; done) | (rw [if_neg (by omega)]; first | (rw [if_pos (by omega)]; first | (rw [if_pos (by omega)]; done) | (rw [if_neg (by omega), if_pos (by omega)]; done) | (rw [if_neg (by omega), if_neg (by omega), if_pos (by omega)]; done) | (rw [if_neg (by omega), if_neg (by omega), if_neg (by omega)]; done)) | (rw [if_neg (by omega), if_pos (by omega)]; done) | (rw [if_neg (by omega), if_neg (by omega), if_pos (by omega)]; done) | (rw [if_neg (by omega), if_neg (by omega), if_neg (by omega)]; done)), rfl⟩⟩
      ·
        refine V_iconst G dX7_heldBy_69 ?_
        refine V_goto G dX7_heldBy_70 (tgt := 97) (by decide) ?_
        exact V_reti E dX7_heldBy_97 rfl rfl ⟨_, rfl, ⟨by unfold heldF; dsimp only; first | (rw [if_pos (by omega)]; done) | (rw [if_neg (by omega)]; first | (rw [if_pos (by omega)]; first | (rw [if_pos (by omega)]; done) | (rw [if_neg (by omega), if_pos (by omega)]; done) | (rw [if_neg (by omega), if_neg (by omega), if_pos (by omega)]; done) | (rw [if_neg (by omega), if_neg (by omega), if_neg (by omega)]; done)) | (rw [if_neg (by omega), if_pos (by omega)]; done) | (rw [if_neg (by omega), if_neg (by omega), if_pos (by omega)]; done) | (rw [if_neg (by omega), if_neg (by omega), if_neg (by omega)]; done)), rfl⟩⟩
    · rw [e_19]
      refine V_tableIn G dX7_heldBy_19 (tgt := 98) ⟨by decide, by decide⟩ (by decide) (by decide) rfl (by decide) ?_
      refine V_iconst G dX7_heldBy_98 ?_
      exact V_reti E dX7_heldBy_99 rfl rfl ⟨_, rfl, ⟨by unfold heldF; dsimp only; first | (rw [if_pos (by omega)]; done) | (rw [if_neg (by omega)]; first | (rw [if_pos (by omega)]; first | (rw [if_pos (by omega)]; done) | (rw [if_neg (by omega), if_pos (by omega)]; done) | (rw [if_neg (by omega), if_neg (by omega), if_pos (by omega)]; done) | (rw [if_neg (by omega), if_neg (by omega), if_neg (by omega)]; done)) | (rw [if_neg (by omega), if_pos (by omega)]; done) | (rw [if_neg (by omega), if_neg (by omega), if_pos (by omega)]; done) | (rw [if_neg (by omega), if_neg (by omega), if_neg (by omega)]; done)), rfl⟩⟩
    · rw [e_19]
      refine V_tableIn G dX7_heldBy_19 (tgt := 102) ⟨by decide, by decide⟩ (by decide) (by decide) rfl (by decide) ?_
      refine V_iconst G dX7_heldBy_102 ?_
      exact V_reti E dX7_heldBy_103 rfl rfl ⟨_, rfl, ⟨by unfold heldF; dsimp only; first | (rw [if_pos (by omega)]; done) | (rw [if_neg (by omega)]; first | (rw [if_pos (by omega)]; first | (rw [if_pos (by omega)]; done) | (rw [if_neg (by omega), if_pos (by omega)]; done) | (rw [if_neg (by omega), if_neg (by omega), if_pos (by omega)]; done) | (rw [if_neg (by omega), if_neg (by omega), if_neg (by omega)]; done)) | (rw [if_neg (by omega), if_pos (by omega)]; done) | (rw [if_neg (by omega), if_neg (by omega), if_pos (by omega)]; done) | (rw [if_neg (by omega), if_neg (by omega), if_neg (by omega)]; done)), rfl⟩⟩
    · rw [e_19]
      refine V_tableIn G dX7_heldBy_19 (tgt := 102) ⟨by decide, by decide⟩ (by decide) (by decide) rfl (by decide) ?_
      refine V_iconst G dX7_heldBy_102 ?_
      exact V_reti E dX7_heldBy_103 rfl rfl ⟨_, rfl, ⟨by unfold heldF; dsimp only; first | (rw [if_pos (by omega)]; done) | (rw [if_neg (by omega)]; first | (rw [if_pos (by omega)]; first | (rw [if_pos (by omega)]; done) | (rw [if_neg (by omega), if_pos (by omega)]; done) | (rw [if_neg (by omega), if_neg (by omega), if_pos (by omega)]; done) | (rw [if_neg (by omega), if_neg (by omega), if_neg (by omega)]; done)) | (rw [if_neg (by omega), if_pos (by omega)]; done) | (rw [if_neg (by omega), if_neg (by omega), if_pos (by omega)]; done) | (rw [if_neg (by omega), if_neg (by omega), if_neg (by omega)]; done)), rfl⟩⟩
    · rw [e_19]
      refine V_tableIn G dX7_heldBy_19 (tgt := 102) ⟨by decide, by decide⟩ (by decide) (by decide) rfl (by decide) ?_
      refine V_iconst G dX7_heldBy_102 ?_
      exact V_reti E dX7_heldBy_103 rfl rfl ⟨_, rfl, ⟨by unfold heldF; dsimp only; first | (rw [if_pos (by omega)]; done) | (rw [if_neg (by omega)]; first | (rw [if_pos (by omega)]; first | (rw [if_pos (by omega)]; done) | (rw [if_neg (by omega), if_pos (by omega)]; done) | (rw [if_neg (by omega), if_neg (by omega), if_pos (by omega)]; done) | (rw [if_neg (by omega), if_neg (by omega), if_neg (by omega)]; done)) | (rw [if_neg (by omega), if_pos (by omega)]; done) | (rw [if_neg (by omega), if_neg (by omega), if_pos (by omega)]; done) | (rw [if_neg (by omega), if_neg (by omega), if_neg (by omega)]; done)), rfl⟩⟩
    · rw [e_19]
      refine V_tableIn G dX7_heldBy_19 (tgt := 100) ⟨by decide, by decide⟩ (by decide) (by decide) rfl (by decide) ?_
      refine V_iconst G dX7_heldBy_100 ?_
      exact V_reti E dX7_heldBy_101 rfl rfl ⟨_, rfl, ⟨by unfold heldF; dsimp only; first | (rw [if_pos (by omega)]; done) | (rw [if_neg (by omega)]; first | (rw [if_pos (by omega)]; first | (rw [if_pos (by omega)]; done) | (rw [if_neg (by omega), if_pos (by omega)]; done) | (rw [if_neg (by omega), if_neg (by omega), if_pos (by omega)]; done) | (rw [if_neg (by omega), if_neg (by omega), if_neg (by omega)]; done)) | (rw [if_neg (by omega), if_pos (by omega)]; done) | (rw [if_neg (by omega), if_neg (by omega), if_pos (by omega)]; done) | (rw [if_neg (by omega), if_neg (by omega), if_neg (by omega)]; done)), rfl⟩⟩
    · rw [e_19]
      refine V_tableIn G dX7_heldBy_19 (tgt := 98) ⟨by decide, by decide⟩ (by decide) (by decide) rfl (by decide) ?_
      refine V_iconst G dX7_heldBy_98 ?_
      exact V_reti E dX7_heldBy_99 rfl rfl ⟨_, rfl, ⟨by unfold heldF; dsimp only; first | (rw [if_pos (by omega)]; done) | (rw [if_neg (by omega)]; first | (rw [if_pos (by omega)]; first | (rw [if_pos (by omega)]; done) | (rw [if_neg (by omega), if_pos (by omega)]; done) | (rw [if_neg (by omega), if_neg (by omega), if_pos (by omega)]; done) | (rw [if_neg (by omega), if_neg (by omega), if_neg (by omega)]; done)) | (rw [if_neg (by omega), if_pos (by omega)]; done) | (rw [if_neg (by omega), if_neg (by omega), if_pos (by omega)]; done) | (rw [if_neg (by omega), if_neg (by omega), if_neg (by omega)]; done)), rfl⟩⟩
  ·
    refine V_iconst G dX7_heldBy_12 ?_
    exact V_reti E dX7_heldBy_13 rfl rfl ⟨_, rfl, ⟨by unfold heldF; dsimp only; first | (rw [if_pos (by omega)]; done) | (rw [if_neg (by omega)]; first | (rw [if_pos (by omega)]; first | (rw [if_pos (by omega)]; done) | (rw [if_neg (by omega), if_pos (by omega)]; done) | (rw [if_neg (by omega), if_neg (by omega), if_pos (by omega)]; done) | (rw [if_neg (by omega), if_neg (by omega), if_neg (by omega)]; done)) | (rw [if_neg (by omega), if_pos (by omega)]; done) | (rw [if_neg (by omega), if_neg (by omega), if_pos (by omega)]; done) | (rw [if_neg (by omega), if_neg (by omega), if_neg (by omega)]; done)), rfl⟩⟩

set_option maxRecDepth 100000 in
set_option maxHeartbeats 4000000 in
theorem c_X7_step {l : Launch} {d : Nat} {h : Hp} (r : Rg h) {n : Int} (hn : hI h 78 0 = n) (hn0 : 0 ≤ n ∧ n ≤ 12) (hk : ∀ w, 0 ≤ w → w < n → 0 ≤ hI h 78 (2 + w) ∧ hI h 78 (2 + w) ≤ 6) {k1 : Int} (hk1 : 0 ≤ k1 ∧ k1 < 400) (hr : rok n (fun w => hI h 89 (12 * k1 + w))) {w : Int} (hw : 0 ≤ w ∧ w < n) (hd : 3 ≤ d := by omega) : CP l d 0 0 yX7_step cX7_step 4 (Option.some Jvm.ClassFile.FieldType.int) [.ref 77, iv k1, iv w] h (pI fun x h1 => x = stepF (fun w => hI h 78 (2 + w)) (fun w => hI h 89 (12 * k1 + w)) w ∧ h1 = h) := by
  refine CP.ofV (L := [some (.ref 77), some (.int (Int32.ofInt k1)), some (.int (Int32.ofInt w)), none]) RX7 (by decide +kernel) rfl (Nat.le_of_ble_eq_true rfl) rfl (fun X hX G E => ?_)
  subst hX
  have hv := heldF_r (fun w => hI h 78 (2 + w)) (fun w => hI h 89 (12 * k1 + w)) w
  have hkw := hk w hw.1 hw.2
  refine V_aload0 G dX7_step_0 ?_
  refine V_iload1 G dX7_step_1 ?_
  refine V_iload2 G dX7_step_2 ?_
  refine V_cV2i (d1 := 2) G m_X7_152 dX7_step_3 (by first | decide | assumption) (by first | rfl | assumption) (c_X7_heldBy r hn hn0 hk hk1 hr hw) (by omega) (by omega) (by omega) (Nat.le_of_ble_eq_true rfl) (fun x_3 h_3 hp_3 => ?_)
  rw [hp_3.1, hp_3.2]
  refine V_istore3 G dX7_step_6 rfl ?_
  refine V_iload3 G dX7_step_7 ?_
  refine V_iconst G dX7_step_8 ?_
  refine V_icmpeq G dX7_step_9 (tgt := 18) (by decide) (by first | exact r _ _ | assumption | exact ⟨by omega, by omega⟩) (by first | exact r _ _ | assumption | exact ⟨by omega, by omega⟩) (fun c_9 => ?_) (fun c_9 => ?_)
  ·
    refine V_iconst G dX7_step_18 ?_
    refine V_goto G dX7_step_19 (tgt := 37) (by decide) ?_
    exact V_reti E dX7_step_37 rfl rfl ⟨_, rfl, ⟨by unfold stepF; first | (rw [if_pos (by omega)]; done) | (rw [if_neg (by omega), if_pos (by omega)]; done) | (rw [if_neg (by omega), if_neg (by omega)]; done), rfl⟩⟩
  ·
    refine V_iload3 G dX7_step_12 ?_
    refine V_bipush G dX7_step_13 (by decide) ?_
    refine V_icmpne G dX7_step_15 (tgt := 22) (by decide) (by first | exact r _ _ | assumption | exact ⟨by omega, by omega⟩) (by first | exact r _ _ | assumption | exact ⟨by omega, by omega⟩) (fun c_15 => ?_) (fun c_15 => ?_)
    ·
      refine V_aload0 G dX7_step_22 ?_
      refine V_iload2 G dX7_step_23 ?_
      refine V_cV1i (d1 := 1) G m_X7_86 dX7_step_24 (by first | decide | assumption) (by first | rfl | assumption) (c_X7_kind (by omega)) (by omega) (by omega) (by omega) (Nat.le_of_ble_eq_true rfl) (fun x_24 h_24 hp_24 => ?_)
      rw [hp_24.1, hp_24.2]
      refine V_bipush G dX7_step_27 (by decide) ?_
      refine V_icmpne G dX7_step_29 (tgt := 36) (by decide) (by first | exact r _ _ | assumption | exact ⟨by omega, by omega⟩) (by first | exact r _ _ | assumption | exact ⟨by omega, by omega⟩) (fun c_29 => ?_) (fun c_29 => ?_)
      ·
        refine V_iconst G dX7_step_36 ?_
        exact V_reti E dX7_step_37 rfl rfl ⟨_, rfl, ⟨by unfold stepF; first | (rw [if_pos (by omega)]; done) | (rw [if_neg (by omega), if_pos (by omega)]; done) | (rw [if_neg (by omega), if_neg (by omega)]; done), rfl⟩⟩
      ·
        refine V_iconst G dX7_step_32 ?_
        refine V_goto G dX7_step_33 (tgt := 37) (by decide) ?_
        exact V_reti E dX7_step_37 rfl rfl ⟨_, rfl, ⟨by unfold stepF; first | (rw [if_pos (by omega)]; done) | (rw [if_neg (by omega), if_pos (by omega)]; done) | (rw [if_neg (by omega), if_neg (by omega)]; done), rfl⟩⟩
    ·
      refine V_iconst G dX7_step_18 ?_
      refine V_goto G dX7_step_19 (tgt := 37) (by decide) ?_
      exact V_reti E dX7_step_37 rfl rfl ⟨_, rfl, ⟨by unfold stepF; first | (rw [if_pos (by omega)]; done) | (rw [if_neg (by omega), if_pos (by omega)]; done) | (rw [if_neg (by omega), if_neg (by omega)]; done), rfl⟩⟩

set_option maxRecDepth 100000 in
set_option maxHeartbeats 4000000 in
theorem c_X7_level {l : Launch} {d : Nat} {h : Hp} (r : Rg h) {n : Int} (hn : hI h 78 0 = n) (hn0 : 0 ≤ n ∧ n ≤ 12) (hk : ∀ w, 0 ≤ w → w < n → 0 ≤ hI h 78 (2 + w) ∧ hI h 78 (2 + w) ≤ 6) {k1 : Int} (hk1 : 0 ≤ k1 ∧ k1 < 400) (hr : rok n (fun w => hI h 89 (12 * k1 + w))) (ht : rtd n (fun w => hI h 89 (12 * k1 + w))) {w : Int} (hw : 0 ≤ w ∧ w < n) (hd : 4 ≤ d := by omega) : CP l d 0 0 yX7_level cX7_level 5 (Option.some Jvm.ClassFile.FieldType.int) [.ref 77, iv k1, iv w] h (pI fun x h1 => x = levF (fun w => hI h 78 (2 + w)) (fun w => hI h 89 (12 * k1 + w)) 12 w ∧ h1 = h) := by
  refine CP.ofV (L := [some (.ref 77), some (.int (Int32.ofInt k1)), some (.int (Int32.ofInt w)), none, none]) RX7 (by decide +kernel) rfl (Nat.le_of_ble_eq_true rfl) rfl (fun X hX G E => ?_)
  subst hX
  have lp : ∀ (m : Nat) (k acc : Int), 0 ≤ k → k < n → reachF (fun w => hI h 89 (12 * k1 + w)) m k → acc + levF (fun w => hI h 78 (2 + w)) (fun w => hI h 89 (12 * k1 + w)) (m + 1) k = levF (fun w => hI h 78 (2 + w)) (fun w => hI h 89 (12 * k1 + w)) 12 w → V X 0 0 5 [some (.ref 77), some (.int (Int32.ofInt k1)), some (.int (Int32.ofInt w)), some (.int (Int32.ofInt acc)), some (.int (Int32.ofInt k))] [] h := by
    intro m
    induction m with
    | zero =>
      intro k acc h1 h2 h3 h4
      have h3 : hI h 89 (12 * k1 + k) = -1 := h3
      refine V_aload0 G dX7_level_5 ?_
      refine V_iload1 G dX7_level_6 ?_
      refine V_iload4 G dX7_level_7 ?_
      refine V_cV2i (d1 := 1) G m_X7_148 dX7_level_9 (by first | decide | assumption) (by first | rfl | assumption) (c_X7_head hk1 (w := k) (by omega)) (by omega) (by omega) (by omega) (Nat.le_of_ble_eq_true rfl) (fun x_9 h_9 hp_9 => ?_)
      rw [hp_9.1, hp_9.2]
      refine V_iconst G dX7_level_12 ?_
      refine V_icmpeq G dX7_level_13 (tgt := 38) (by decide) (by first | exact r _ _ | assumption | exact ⟨by omega, by omega⟩) (by first | exact r _ _ | assumption | exact ⟨by omega, by omega⟩) (fun c_13 => ?_) (fun c_13 => ?_)
      ·
        refine V_iload3 G dX7_level_38 ?_
        exact V_reti E dX7_level_39 rfl rfl ⟨_, rfl, ⟨by rw [← h4, levF, if_pos h3]; simp, rfl⟩⟩
      · exact absurd h3 c_13
    | succ m ih =>
      intro k acc h1 h2 h3 h4
      have hv := hr k h1 h2
      dsimp only at hv
      refine V_aload0 G dX7_level_5 ?_
      refine V_iload1 G dX7_level_6 ?_
      refine V_iload4 G dX7_level_7 ?_
      refine V_cV2i (d1 := 1) G m_X7_148 dX7_level_9 (by first | decide | assumption) (by first | rfl | assumption) (c_X7_head hk1 (w := k) (by omega)) (by omega) (by omega) (by omega) (Nat.le_of_ble_eq_true rfl) (fun x_9 h_9 hp_9 => ?_)
      rw [hp_9.1, hp_9.2]
      refine V_iconst G dX7_level_12 ?_
      refine V_icmpeq G dX7_level_13 (tgt := 38) (by decide) (by first | exact r _ _ | assumption | exact ⟨by omega, by omega⟩) (by first | exact r _ _ | assumption | exact ⟨by omega, by omega⟩) (fun c_13 => ?_) (fun c_13 => ?_)
      ·
        refine V_iload3 G dX7_level_38 ?_
        exact V_reti E dX7_level_39 rfl rfl ⟨_, rfl, ⟨by rw [← h4, levF, if_pos c_13]; simp, rfl⟩⟩
      ·
        refine V_iload3 G dX7_level_16 ?_
        refine V_aload0 G dX7_level_17 ?_
        refine V_iload1 G dX7_level_18 ?_
        refine V_iload4 G dX7_level_19 ?_
        refine V_cV2i (d1 := 3) G m_X7_155 dX7_level_21 (by first | decide | assumption) (by first | rfl | assumption) (c_X7_step r hn hn0 hk hk1 hr (w := k) ⟨h1, h2⟩) (by omega) (by omega) (by omega) (Nat.le_of_ble_eq_true rfl) (fun x_21 h_21 hp_21 => ?_)
        rw [hp_21.1, hp_21.2]
        refine V_iadd G dX7_level_24 ?_
        refine V_istore3 G dX7_level_25 rfl ?_
        refine V_aload0 G dX7_level_26 ?_
        refine V_iload1 G dX7_level_27 ?_
        refine V_iload4 G dX7_level_28 ?_
        refine V_cV2i (d1 := 1) G m_X7_148 dX7_level_30 (by first | decide | assumption) (by first | rfl | assumption) (c_X7_head hk1 (w := k) (by omega)) (by omega) (by omega) (by omega) (Nat.le_of_ble_eq_true rfl) (fun x_30 h_30 hp_30 => ?_)
        rw [hp_30.1, hp_30.2]
        refine V_istore4 G dX7_level_33 rfl ?_
        refine V_goto G dX7_level_35 (tgt := 5) (by decide) ?_
        exact ih _ _ (by omega) (by omega) (h3.elim (fun z => absurd z c_13) id) (by have e : levF (fun w => hI h 78 (2 + w)) (fun w => hI h 89 (12 * k1 + w)) (m + 1 + 1) k = stepF (fun w => hI h 78 (2 + w)) (fun w => hI h 89 (12 * k1 + w)) k + levF (fun w => hI h 78 (2 + w)) (fun w => hI h 89 (12 * k1 + w)) (m + 1) (hI h 89 (12 * k1 + k)) := (by rw [levF, if_neg (show ¬ hI h 89 (12 * k1 + k) = -1 from c_13)]); rw [← h4, e, Int.add_assoc])
  refine V_iconst G dX7_level_0 ?_
  refine V_istore3 G dX7_level_1 rfl ?_
  refine V_iload2 G dX7_level_2 ?_
  refine V_istore4 G dX7_level_3 rfl ?_
  exact lp 11 w 0 hw.1 hw.2 (ht w hw.1 hw.2) (by simp)

set_option maxRecDepth 100000 in
set_option maxHeartbeats 4000000 in
theorem c_X7_height {l : Launch} {d : Nat} {h : Hp} (r : Rg h) {n : Int} (hn : hI h 78 0 = n) (hn0 : 0 ≤ n ∧ n ≤ 12) (hk : ∀ w, 0 ≤ w → w < n → 0 ≤ hI h 78 (2 + w) ∧ hI h 78 (2 + w) ≤ 6) {k1 : Int} (hk1 : 0 ≤ k1 ∧ k1 < 400) (hr : rok n (fun w => hI h 89 (12 * k1 + w))) (ht : rtd n (fun w => hI h 89 (12 * k1 + w))) (hd : 5 ≤ d := by omega) : CP l d 0 0 yX7_height cX7_height 6 (Option.some Jvm.ClassFile.FieldType.int) [.ref 77, iv k1] h (pI fun x h1 => x = mxF (levF (fun w => hI h 78 (2 + w)) (fun w => hI h 89 (12 * k1 + w)) 12) n.toNat 0 0 - mnF (levF (fun w => hI h 78 (2 + w)) (fun w => hI h 89 (12 * k1 + w)) 12) n.toNat 0 0 + 1 ∧ h1 = h) := by
  refine CP.ofV (L := [some (.ref 77), some (.int (Int32.ofInt k1)), none, none, none, none]) RX7 (by decide +kernel) rfl (Nat.le_of_ble_eq_true rfl) rfl (fun X hX G E => ?_)
  subst hX
  have lr := fun w => levF_r (fun w => hI h 78 (2 + w)) (fun w => hI h 89 (12 * k1 + w)) 12 w
  have lp : ∀ (m : Nat) (k : Int) (a : Int) (b : Int) (a5 : Option Value), k + m = n → 0 ≤ k → -12 ≤ a ∧ a ≤ 12 → -12 ≤ b ∧ b ≤ 12 → mnF (levF (fun w => hI h 78 (2 + w)) (fun w => hI h 89 (12 * k1 + w)) 12) m k a = mnF (levF (fun w => hI h 78 (2 + w)) (fun w => hI h 89 (12 * k1 + w)) 12) n.toNat 0 0 → mxF (levF (fun w => hI h 78 (2 + w)) (fun w => hI h 89 (12 * k1 + w)) 12) m k b = mxF (levF (fun w => hI h 78 (2 + w)) (fun w => hI h 89 (12 * k1 + w)) 12) n.toNat 0 0 → V X 0 0 7 [some (.ref 77), some (.int (Int32.ofInt k1)), some (.int (Int32.ofInt a)), some (.int (Int32.ofInt b)), some (.int (Int32.ofInt k)), a5] [] h := by
    intro m
    induction m with
    | zero =>
      intro k a b a5 hm_ hk0 ha hb h1 h2
      have lk := lr k
      refine V_iload4 G dX7_height_7 ?_
      refine V_aload0 G dX7_height_9 ?_
      refine V_getR G fl_X7_7 dX7_height_10 (by first | decide | assumption) (by first | rfl | assumption) rfl (by first | rfl | assumption) ?_
      refine V_iconst G dX7_height_13 ?_
      refine V_ialde G dX7_height_14 (by first | decide | assumption) (by first | rfl | assumption) (by decide) ⟨by omega, by omega⟩ (by first | (simp only [hI_sI, hI_sL, hL_sI, hL_sL, false_and, true_and, and_false, and_true, and_self, if_false, if_true, hn]; first | done | rfl) | rfl) ?_
      refine V_icmpge G dX7_height_15 (tgt := 59) (by decide) (by first | exact r _ _ | assumption | exact ⟨by omega, by omega⟩) (by first | exact r _ _ | assumption | exact ⟨by omega, by omega⟩) (fun c_15 => ?_) (fun c_15 => ?_)
      ·
        refine V_iload3 G dX7_height_59 ?_
        refine V_iload2 G dX7_height_60 ?_
        refine V_isub G dX7_height_61 ?_
        refine V_iconst G dX7_height_62 ?_
        refine V_iadd G dX7_height_63 ?_
        exact V_reti E dX7_height_64 rfl rfl ⟨_, rfl, ⟨by rw [← h1, ← h2]; rfl, rfl⟩⟩
      · omega
    | succ m ih =>
      intro k a b a5 hm_ hk0 ha hb h1 h2
      have lk := lr k
      refine V_iload4 G dX7_height_7 ?_
      refine V_aload0 G dX7_height_9 ?_
      refine V_getR G fl_X7_7 dX7_height_10 (by first | decide | assumption) (by first | rfl | assumption) rfl (by first | rfl | assumption) ?_
      refine V_iconst G dX7_height_13 ?_
      refine V_ialde G dX7_height_14 (by first | decide | assumption) (by first | rfl | assumption) (by decide) ⟨by omega, by omega⟩ (by first | (simp only [hI_sI, hI_sL, hL_sI, hL_sL, false_and, true_and, and_false, and_true, and_self, if_false, if_true, hn]; first | done | rfl) | rfl) ?_
      refine V_icmpge G dX7_height_15 (tgt := 59) (by decide) (by first | exact r _ _ | assumption | exact ⟨by omega, by omega⟩) (by first | exact r _ _ | assumption | exact ⟨by omega, by omega⟩) (fun c_15 => ?_) (fun c_15 => ?_)
      · omega
      ·
        refine V_aload0 G dX7_height_18 ?_
        refine V_iload1 G dX7_height_19 ?_
        refine V_iload4 G dX7_height_20 ?_
        refine V_cV2i (d1 := 4) G m_X7_158 dX7_height_22 (by first | decide | assumption) (by first | rfl | assumption) (c_X7_level r hn hn0 hk hk1 hr ht (w := k) (by omega)) (by omega) (by omega) (by omega) (Nat.le_of_ble_eq_true rfl) (fun x_22 h_22 hp_22 => ?_)
        rw [hp_22.1, hp_22.2]
        refine V_istore5 G dX7_height_25 rfl ?_
        refine V_iload5 G dX7_height_27 ?_
        refine V_iload2 G dX7_height_29 ?_
        refine V_icmpge G dX7_height_30 (tgt := 38) (by decide) (by first | exact r _ _ | assumption | exact ⟨by omega, by omega⟩) (by first | exact r _ _ | assumption | exact ⟨by omega, by omega⟩) (fun c_30 => ?_) (fun c_30 => ?_)
        ·
          refine V_iload2 G dX7_height_38 ?_
          refine V_istore2 G dX7_height_39 rfl ?_
          refine V_iload5 G dX7_height_40 ?_
          refine V_iload3 G dX7_height_42 ?_
          refine V_icmple G dX7_height_43 (tgt := 51) (by decide) (by first | exact r _ _ | assumption | exact ⟨by omega, by omega⟩) (by first | exact r _ _ | assumption | exact ⟨by omega, by omega⟩) (fun c_43 => ?_) (fun c_43 => ?_)
          ·
            refine V_iload3 G dX7_height_51 ?_
            refine V_istore3 G dX7_height_52 rfl ?_
            refine V_iinc4 G dX7_height_53 rfl ?_
            refine V_goto G dX7_height_56 (tgt := 7) (by decide) ?_
            exact ih (k + 1) _ _ _ (by omega) (by omega) (by omega) (by omega) (by rw [← h1, mnF]; first | rw [if_pos (by omega)] | rw [if_neg (by omega)]) (by rw [← h2, mxF]; first | rw [if_pos (by omega)] | rw [if_neg (by omega)])
          ·
            refine V_iload5 G dX7_height_46 ?_
            refine V_goto G dX7_height_48 (tgt := 52) (by decide) ?_
            refine V_istore3 G dX7_height_52 rfl ?_
            refine V_iinc4 G dX7_height_53 rfl ?_
            refine V_goto G dX7_height_56 (tgt := 7) (by decide) ?_
            exact ih (k + 1) _ _ _ (by omega) (by omega) (by omega) (by omega) (by rw [← h1, mnF]; first | rw [if_pos (by omega)] | rw [if_neg (by omega)]) (by rw [← h2, mxF]; first | rw [if_pos (by omega)] | rw [if_neg (by omega)])
        ·
          refine V_iload5 G dX7_height_33 ?_
          refine V_goto G dX7_height_35 (tgt := 39) (by decide) ?_
          refine V_istore2 G dX7_height_39 rfl ?_
          refine V_iload5 G dX7_height_40 ?_
          refine V_iload3 G dX7_height_42 ?_
          refine V_icmple G dX7_height_43 (tgt := 51) (by decide) (by first | exact r _ _ | assumption | exact ⟨by omega, by omega⟩) (by first | exact r _ _ | assumption | exact ⟨by omega, by omega⟩) (fun c_43 => ?_) (fun c_43 => ?_)
          ·
            refine V_iload3 G dX7_height_51 ?_
            refine V_istore3 G dX7_height_52 rfl ?_
            refine V_iinc4 G dX7_height_53 rfl ?_
            refine V_goto G dX7_height_56 (tgt := 7) (by decide) ?_
            exact ih (k + 1) _ _ _ (by omega) (by omega) (by omega) (by omega) (by rw [← h1, mnF]; first | rw [if_pos (by omega)] | rw [if_neg (by omega)]) (by rw [← h2, mxF]; first | rw [if_pos (by omega)] | rw [if_neg (by omega)])
          ·
            refine V_iload5 G dX7_height_46 ?_
            refine V_goto G dX7_height_48 (tgt := 52) (by decide) ?_
            refine V_istore3 G dX7_height_52 rfl ?_
            refine V_iinc4 G dX7_height_53 rfl ?_
            refine V_goto G dX7_height_56 (tgt := 7) (by decide) ?_
            exact ih (k + 1) _ _ _ (by omega) (by omega) (by omega) (by omega) (by rw [← h1, mnF]; first | rw [if_pos (by omega)] | rw [if_neg (by omega)]) (by rw [← h2, mxF]; first | rw [if_pos (by omega)] | rw [if_neg (by omega)])
  refine V_iconst G dX7_height_0 ?_
  refine V_istore2 G dX7_height_1 rfl ?_
  refine V_iconst G dX7_height_2 ?_
  refine V_istore3 G dX7_height_3 rfl ?_
  refine V_iconst G dX7_height_4 ?_
  refine V_istore4 G dX7_height_5 rfl ?_
  exact lp n.toNat 0 0 0 _ (by omega) (by omega) (by omega) (by omega) rfl rfl

set_option maxRecDepth 100000 in
set_option maxHeartbeats 4000000 in
theorem c_X7_holds {l : Launch} {d : Nat} {h : Hp} (r : Rg h) {n : Int} (hn : hI h 78 0 = n) (hn0 : 0 ≤ n ∧ n ≤ 12) {k1 : Int} (hk1 : 0 ≤ k1 ∧ k1 < 400) {w : Int} (hw : inr w) (hd : 2 ≤ d := by omega) : CP l d 0 0 yX7_holds cX7_holds 5 (Option.some Jvm.ClassFile.FieldType.int) [.ref 77, iv k1, iv w] h (pI fun x h1 => x = sumF (fun k => if hI h 89 (12 * k1 + k) = w then 1 else 0) n.toNat 0 ∧ h1 = h) := by
  refine CP.ofV (L := [some (.ref 77), some (.int (Int32.ofInt k1)), some (.int (Int32.ofInt w)), none, none]) RX7 (by decide +kernel) rfl (Nat.le_of_ble_eq_true rfl) rfl (fun X hX G E => ?_)
  subst hX
  have lp : ∀ (m : Nat) (k : Int) (acc : Int), k + m = n → 0 ≤ k → acc + sumF (fun k => if hI h 89 (12 * k1 + k) = w then 1 else 0) m k = sumF (fun k => if hI h 89 (12 * k1 + k) = w then 1 else 0) n.toNat 0 → V X 0 0 5 [some (.ref 77), some (.int (Int32.ofInt k1)), some (.int (Int32.ofInt w)), some (.int (Int32.ofInt acc)), some (.int (Int32.ofInt k))] [] h := by
    intro m
    induction m with
    | zero =>
      intro k acc hm_ hk0 hs
      refine V_iload4 G dX7_holds_5 ?_
      refine V_aload0 G dX7_holds_7 ?_
      refine V_getR G fl_X7_7 dX7_holds_8 (by first | decide | assumption) (by first | rfl | assumption) rfl (by first | rfl | assumption) ?_
      refine V_iconst G dX7_holds_11 ?_
      refine V_ialde G dX7_holds_12 (by first | decide | assumption) (by first | rfl | assumption) (by decide) ⟨by omega, by omega⟩ (by first | (simp only [hI_sI, hI_sL, hL_sI, hL_sL, false_and, true_and, and_false, and_true, and_self, if_false, if_true, hn]; first | done | rfl) | rfl) ?_
      refine V_icmpge G dX7_holds_13 (tgt := 41) (by decide) (by first | exact r _ _ | assumption | exact ⟨by omega, by omega⟩) (by first | exact r _ _ | assumption | exact ⟨by omega, by omega⟩) (fun c_13 => ?_) (fun c_13 => ?_)
      ·
        refine V_iload3 G dX7_holds_41 ?_
        exact V_reti E dX7_holds_42 rfl rfl ⟨_, rfl, ⟨by rw [← hs]; simp [sumF], rfl⟩⟩
      · omega
    | succ m ih =>
      intro k acc hm_ hk0 hs
      refine V_iload4 G dX7_holds_5 ?_
      refine V_aload0 G dX7_holds_7 ?_
      refine V_getR G fl_X7_7 dX7_holds_8 (by first | decide | assumption) (by first | rfl | assumption) rfl (by first | rfl | assumption) ?_
      refine V_iconst G dX7_holds_11 ?_
      refine V_ialde G dX7_holds_12 (by first | decide | assumption) (by first | rfl | assumption) (by decide) ⟨by omega, by omega⟩ (by first | (simp only [hI_sI, hI_sL, hL_sI, hL_sL, false_and, true_and, and_false, and_true, and_self, if_false, if_true, hn]; first | done | rfl) | rfl) ?_
      refine V_icmpge G dX7_holds_13 (tgt := 41) (by decide) (by first | exact r _ _ | assumption | exact ⟨by omega, by omega⟩) (by first | exact r _ _ | assumption | exact ⟨by omega, by omega⟩) (fun c_13 => ?_) (fun c_13 => ?_)
      · omega
      ·
        refine V_iload3 G dX7_holds_16 ?_
        refine V_aload0 G dX7_holds_17 ?_
        refine V_iload1 G dX7_holds_18 ?_
        refine V_iload4 G dX7_holds_19 ?_
        refine V_cV2i (d1 := 1) G m_X7_148 dX7_holds_21 (by first | decide | assumption) (by first | rfl | assumption) (c_X7_head hk1 (w := k) (by omega)) (by omega) (by omega) (by omega) (Nat.le_of_ble_eq_true rfl) (fun x_21 h_21 hp_21 => ?_)
        rw [hp_21.1, hp_21.2]
        refine V_iload2 G dX7_holds_24 ?_
        refine V_icmpne G dX7_holds_25 (tgt := 32) (by decide) (by first | exact r _ _ | assumption | exact ⟨by omega, by omega⟩) (by first | exact r _ _ | assumption | exact ⟨by omega, by omega⟩) (fun c_25 => ?_) (fun c_25 => ?_)
        ·
          refine V_iconst G dX7_holds_32 ?_
          refine V_iadd G dX7_holds_33 ?_
          refine V_istore3 G dX7_holds_34 rfl ?_
          refine V_iinc4 G dX7_holds_35 rfl ?_
          refine V_goto G dX7_holds_38 (tgt := 5) (by decide) ?_
          exact ih (k + 1) _ (by omega) (by omega) (by
            rw [← hs]
            conv => rhs; rw [sumF]
            first
            | rw [if_pos (by omega)]
            | rw [if_neg (by omega)]
            omega)
        ·
          refine V_iconst G dX7_holds_28 ?_
          refine V_goto G dX7_holds_29 (tgt := 33) (by decide) ?_
          refine V_iadd G dX7_holds_33 ?_
          refine V_istore3 G dX7_holds_34 rfl ?_
          refine V_iinc4 G dX7_holds_35 rfl ?_
          refine V_goto G dX7_holds_38 (tgt := 5) (by decide) ?_
          exact ih (k + 1) _ (by omega) (by omega) (by
            rw [← hs]
            conv => rhs; rw [sumF]
            first
            | rw [if_pos (by omega)]
            | rw [if_neg (by omega)]
            omega)
  refine V_iconst G dX7_holds_0 ?_
  refine V_istore3 G dX7_holds_1 rfl ?_
  refine V_iconst G dX7_holds_2 ?_
  refine V_istore4 G dX7_holds_3 rfl ?_
  exact lp n.toNat 0 0 (by omega) (by omega) (by simp)

set_option maxRecDepth 100000 in
set_option maxHeartbeats 4000000 in
theorem c_X7_wordsOf {l : Launch} {d : Nat} {h : Hp} (r : Rg h) {n : Int} (hn : hI h 78 0 = n) (hn0 : 0 ≤ n ∧ n ≤ 12) {kd : Int} (hw : inr kd) (hd : 2 ≤ d := by omega) : CP l d 0 0 yX7_wordsOf cX7_wordsOf 4 (Option.some Jvm.ClassFile.FieldType.int) [.ref 77, iv kd] h (pI fun x h1 => x = sumF (fun k => if hI h 78 (2 + k) = kd then 1 else 0) n.toNat 0 ∧ h1 = h) := by
  refine CP.ofV (L := [some (.ref 77), some (.int (Int32.ofInt kd)), none, none]) RX7 (by decide +kernel) rfl (Nat.le_of_ble_eq_true rfl) rfl (fun X hX G E => ?_)
  subst hX
  have lp : ∀ (m : Nat) (k : Int) (acc : Int), k + m = n → 0 ≤ k → acc + sumF (fun k => if hI h 78 (2 + k) = kd then 1 else 0) m k = sumF (fun k => if hI h 78 (2 + k) = kd then 1 else 0) n.toNat 0 → V X 0 0 4 [some (.ref 77), some (.int (Int32.ofInt kd)), some (.int (Int32.ofInt acc)), some (.int (Int32.ofInt k))] [] h := by
    intro m
    induction m with
    | zero =>
      intro k acc hm_ hk0 hs
      refine V_iload3 G dX7_wordsOf_4 ?_
      refine V_aload0 G dX7_wordsOf_5 ?_
      refine V_getR G fl_X7_7 dX7_wordsOf_6 (by first | decide | assumption) (by first | rfl | assumption) rfl (by first | rfl | assumption) ?_
      refine V_iconst G dX7_wordsOf_9 ?_
      refine V_ialde G dX7_wordsOf_10 (by first | decide | assumption) (by first | rfl | assumption) (by decide) ⟨by omega, by omega⟩ (by first | (simp only [hI_sI, hI_sL, hL_sI, hL_sL, false_and, true_and, and_false, and_true, and_self, if_false, if_true, hn]; first | done | rfl) | rfl) ?_
      refine V_icmpge G dX7_wordsOf_11 (tgt := 37) (by decide) (by first | exact r _ _ | assumption | exact ⟨by omega, by omega⟩) (by first | exact r _ _ | assumption | exact ⟨by omega, by omega⟩) (fun c_11 => ?_) (fun c_11 => ?_)
      ·
        refine V_iload2 G dX7_wordsOf_37 ?_
        exact V_reti E dX7_wordsOf_38 rfl rfl ⟨_, rfl, ⟨by rw [← hs]; simp [sumF], rfl⟩⟩
      · omega
    | succ m ih =>
      intro k acc hm_ hk0 hs
      refine V_iload3 G dX7_wordsOf_4 ?_
      refine V_aload0 G dX7_wordsOf_5 ?_
      refine V_getR G fl_X7_7 dX7_wordsOf_6 (by first | decide | assumption) (by first | rfl | assumption) rfl (by first | rfl | assumption) ?_
      refine V_iconst G dX7_wordsOf_9 ?_
      refine V_ialde G dX7_wordsOf_10 (by first | decide | assumption) (by first | rfl | assumption) (by decide) ⟨by omega, by omega⟩ (by first | (simp only [hI_sI, hI_sL, hL_sI, hL_sL, false_and, true_and, and_false, and_true, and_self, if_false, if_true, hn]; first | done | rfl) | rfl) ?_
      refine V_icmpge G dX7_wordsOf_11 (tgt := 37) (by decide) (by first | exact r _ _ | assumption | exact ⟨by omega, by omega⟩) (by first | exact r _ _ | assumption | exact ⟨by omega, by omega⟩) (fun c_11 => ?_) (fun c_11 => ?_)
      · omega
      ·
        refine V_iload2 G dX7_wordsOf_14 ?_
        refine V_aload0 G dX7_wordsOf_15 ?_
        refine V_iload3 G dX7_wordsOf_16 ?_
        refine V_cV1i (d1 := 1) G m_X7_86 dX7_wordsOf_17 (by first | decide | assumption) (by first | rfl | assumption) (c_X7_kind (w := k) (by omega)) (by omega) (by omega) (by omega) (Nat.le_of_ble_eq_true rfl) (fun x_17 h_17 hp_17 => ?_)
        rw [hp_17.1, hp_17.2]
        refine V_iload1 G dX7_wordsOf_20 ?_
        refine V_icmpne G dX7_wordsOf_21 (tgt := 28) (by decide) (by first | exact r _ _ | assumption | exact ⟨by omega, by omega⟩) (by first | exact r _ _ | assumption | exact ⟨by omega, by omega⟩) (fun c_21 => ?_) (fun c_21 => ?_)
        ·
          refine V_iconst G dX7_wordsOf_28 ?_
          refine V_iadd G dX7_wordsOf_29 ?_
          refine V_istore2 G dX7_wordsOf_30 rfl ?_
          refine V_iinc3 G dX7_wordsOf_31 rfl ?_
          refine V_goto G dX7_wordsOf_34 (tgt := 4) (by decide) ?_
          exact ih (k + 1) _ (by omega) (by omega) (by
            rw [← hs]
            conv => rhs; rw [sumF]
            first
            | rw [if_pos (by omega)]
            | rw [if_neg (by omega)]
            omega)
        ·
          refine V_iconst G dX7_wordsOf_24 ?_
          refine V_goto G dX7_wordsOf_25 (tgt := 29) (by decide) ?_
          refine V_iadd G dX7_wordsOf_29 ?_
          refine V_istore2 G dX7_wordsOf_30 rfl ?_
          refine V_iinc3 G dX7_wordsOf_31 rfl ?_
          refine V_goto G dX7_wordsOf_34 (tgt := 4) (by decide) ?_
          exact ih (k + 1) _ (by omega) (by omega) (by
            rw [← hs]
            conv => rhs; rw [sumF]
            first
            | rw [if_pos (by omega)]
            | rw [if_neg (by omega)]
            omega)
  refine V_iconst G dX7_wordsOf_0 ?_
  refine V_istore2 G dX7_wordsOf_1 rfl ?_
  refine V_iconst G dX7_wordsOf_2 ?_
  refine V_istore3 G dX7_wordsOf_3 rfl ?_
  exact lp n.toNat 0 0 (by omega) (by omega) (by simp)

set_option maxRecDepth 100000 in
set_option maxHeartbeats 4000000 in
theorem c_X7_fixedWords {l : Launch} {d : Nat} {h : Hp} (r : Rg h) {n : Int} (hn : hI h 78 0 = n) (hn0 : 0 ≤ n ∧ n ≤ 12) (hd : 1 ≤ d := by omega) : CP l d 0 0 yX7_fixedWords cX7_fixedWords 3 (Option.some Jvm.ClassFile.FieldType.int) [.ref 77] h (pI fun x h1 => x = sumF (fun k => if 0 < hI h 78 (14 + k) then 1 else 0) n.toNat 0 ∧ h1 = h) := by
  refine CP.ofV (L := [some (.ref 77), none, none]) RX7 (by decide +kernel) rfl (Nat.le_of_ble_eq_true rfl) rfl (fun X hX G E => ?_)
  subst hX
  have lp : ∀ (m : Nat) (k : Int) (acc : Int), k + m = n → 0 ≤ k → acc + sumF (fun k => if 0 < hI h 78 (14 + k) then 1 else 0) m k = sumF (fun k => if 0 < hI h 78 (14 + k) then 1 else 0) n.toNat 0 → V X 0 0 4 [some (.ref 77), some (.int (Int32.ofInt acc)), some (.int (Int32.ofInt k))] [] h := by
    intro m
    induction m with
    | zero =>
      intro k acc hm_ hk0 hs
      refine V_iload2 G dX7_fixedWords_4 ?_
      refine V_aload0 G dX7_fixedWords_5 ?_
      refine V_getR G fl_X7_7 dX7_fixedWords_6 (by first | decide | assumption) (by first | rfl | assumption) rfl (by first | rfl | assumption) ?_
      refine V_iconst G dX7_fixedWords_9 ?_
      refine V_ialde G dX7_fixedWords_10 (by first | decide | assumption) (by first | rfl | assumption) (by decide) ⟨by omega, by omega⟩ (by first | (simp only [hI_sI, hI_sL, hL_sI, hL_sL, false_and, true_and, and_false, and_true, and_self, if_false, if_true, hn]; first | done | rfl) | rfl) ?_
      refine V_icmpge G dX7_fixedWords_11 (tgt := 40) (by decide) (by first | exact r _ _ | assumption | exact ⟨by omega, by omega⟩) (by first | exact r _ _ | assumption | exact ⟨by omega, by omega⟩) (fun c_11 => ?_) (fun c_11 => ?_)
      ·
        refine V_iload1 G dX7_fixedWords_40 ?_
        exact V_reti E dX7_fixedWords_41 rfl rfl ⟨_, rfl, ⟨by rw [← hs]; simp [sumF], rfl⟩⟩
      · omega
    | succ m ih =>
      intro k acc hm_ hk0 hs
      refine V_iload2 G dX7_fixedWords_4 ?_
      refine V_aload0 G dX7_fixedWords_5 ?_
      refine V_getR G fl_X7_7 dX7_fixedWords_6 (by first | decide | assumption) (by first | rfl | assumption) rfl (by first | rfl | assumption) ?_
      refine V_iconst G dX7_fixedWords_9 ?_
      refine V_ialde G dX7_fixedWords_10 (by first | decide | assumption) (by first | rfl | assumption) (by decide) ⟨by omega, by omega⟩ (by first | (simp only [hI_sI, hI_sL, hL_sI, hL_sL, false_and, true_and, and_false, and_true, and_self, if_false, if_true, hn]; first | done | rfl) | rfl) ?_
      refine V_icmpge G dX7_fixedWords_11 (tgt := 40) (by decide) (by first | exact r _ _ | assumption | exact ⟨by omega, by omega⟩) (by first | exact r _ _ | assumption | exact ⟨by omega, by omega⟩) (fun c_11 => ?_) (fun c_11 => ?_)
      · omega
      ·
        refine V_iload1 G dX7_fixedWords_14 ?_
        refine V_aload0 G dX7_fixedWords_15 ?_
        refine V_getR G fl_X7_7 dX7_fixedWords_16 (by first | decide | assumption) (by first | rfl | assumption) rfl (by first | rfl | assumption) ?_
        refine V_bipush G dX7_fixedWords_19 (by decide) ?_
        refine V_iload2 G dX7_fixedWords_21 ?_
        refine V_iadd G dX7_fixedWords_22 ?_
        refine V_ialde G dX7_fixedWords_23 (by first | decide | assumption) (by first | rfl | assumption) (by decide) ⟨by omega, by omega⟩ (by first | (simp only [hI_sI, hI_sL, hL_sI, hL_sL, false_and, true_and, and_false, and_true, and_self, if_false, if_true, hn]; first | done | rfl) | rfl) ?_
        refine V_ifle G dX7_fixedWords_24 (tgt := 31) (by decide) (by first | exact r _ _ | assumption | exact ⟨by omega, by omega⟩) (fun c_24 => ?_) (fun c_24 => ?_)
        ·
          refine V_iconst G dX7_fixedWords_31 ?_
          refine V_iadd G dX7_fixedWords_32 ?_
          refine V_istore1 G dX7_fixedWords_33 rfl ?_
          refine V_iinc2 G dX7_fixedWords_34 rfl ?_
          refine V_goto G dX7_fixedWords_37 (tgt := 4) (by decide) ?_
          exact ih (k + 1) _ (by omega) (by omega) (by
            rw [← hs]
            conv => rhs; rw [sumF]
            first
            | rw [if_pos (by omega)]
            | rw [if_neg (by omega)]
            omega)
        ·
          refine V_iconst G dX7_fixedWords_27 ?_
          refine V_goto G dX7_fixedWords_28 (tgt := 32) (by decide) ?_
          refine V_iadd G dX7_fixedWords_32 ?_
          refine V_istore1 G dX7_fixedWords_33 rfl ?_
          refine V_iinc2 G dX7_fixedWords_34 rfl ?_
          refine V_goto G dX7_fixedWords_37 (tgt := 4) (by decide) ?_
          exact ih (k + 1) _ (by omega) (by omega) (by
            rw [← hs]
            conv => rhs; rw [sumF]
            first
            | rw [if_pos (by omega)]
            | rw [if_neg (by omega)]
            omega)
  refine V_iconst G dX7_fixedWords_0 ?_
  refine V_istore1 G dX7_fixedWords_1 rfl ?_
  refine V_iconst G dX7_fixedWords_2 ?_
  refine V_istore2 G dX7_fixedWords_3 rfl ?_
  exact lp n.toNat 0 0 (by omega) (by omega) (by simp)

set_option maxRecDepth 100000 in
set_option maxHeartbeats 4000000 in
theorem c_X7_mostHeld {l : Launch} {d : Nat} {h : Hp} (r : Rg h) {n : Int} (hn : hI h 78 0 = n) (hn0 : 0 ≤ n ∧ n ≤ 12) {k1 : Int} (hk1 : 0 ≤ k1 ∧ k1 < 400) (hd : 3 ≤ d := by omega) : CP l d 0 0 yX7_mostHeld cX7_mostHeld 5 (Option.some Jvm.ClassFile.FieldType.int) [.ref 77, iv k1] h (pI fun x h1 => x = mxF (fun w => sumF (fun k => if hI h 89 (12 * k1 + k) = w then 1 else 0) n.toNat 0) n.toNat 0 0 ∧ h1 = h) := by
  refine CP.ofV (L := [some (.ref 77), some (.int (Int32.ofInt k1)), none, none, none]) RX7 (by decide +kernel) rfl (Nat.le_of_ble_eq_true rfl) rfl (fun X hX G E => ?_)
  subst hX
  have lr : ∀ w, 0 ≤ (fun w => sumF (fun k => if hI h 89 (12 * k1 + k) = w then 1 else 0) n.toNat 0) w ∧ (fun w => sumF (fun k => if hI h 89 (12 * k1 + k) = w then 1 else 0) n.toNat 0) w ≤ 12 := fun w => by
    have := sumF_le (f := fun k => if hI h 89 (12 * k1 + k) = w then 1 else 0) (b := 1) (by omega) n.toNat 0 (fun j => by split <;> omega)
    dsimp only
    omega
  have lp : ∀ (m : Nat) (k : Int) (a : Int) (a4 : Option Value), k + m = n → 0 ≤ k → 0 ≤ a ∧ a ≤ 12 → mxF (fun w => sumF (fun k => if hI h 89 (12 * k1 + k) = w then 1 else 0) n.toNat 0) m k a = mxF (fun w => sumF (fun k => if hI h 89 (12 * k1 + k) = w then 1 else 0) n.toNat 0) n.toNat 0 0 → V X 0 0 4 [some (.ref 77), some (.int (Int32.ofInt k1)), some (.int (Int32.ofInt a)), some (.int (Int32.ofInt k)), a4] [] h := by
    intro m
    induction m with
    | zero =>
      intro k a a4 hm_ hk0 ha hs
      have lk := lr k
      dsimp only at lk
      refine V_iload3 G dX7_mostHeld_4 ?_
      refine V_aload0 G dX7_mostHeld_5 ?_
      refine V_getR G fl_X7_7 dX7_mostHeld_6 (by first | decide | assumption) (by first | rfl | assumption) rfl (by first | rfl | assumption) ?_
      refine V_iconst G dX7_mostHeld_9 ?_
      refine V_ialde G dX7_mostHeld_10 (by first | decide | assumption) (by first | rfl | assumption) (by decide) ⟨by omega, by omega⟩ (by first | (simp only [hI_sI, hI_sL, hL_sI, hL_sL, false_and, true_and, and_false, and_true, and_self, if_false, if_true, hn]; first | done | rfl) | rfl) ?_
      refine V_icmpge G dX7_mostHeld_11 (tgt := 41) (by decide) (by first | exact r _ _ | assumption | exact ⟨by omega, by omega⟩) (by first | exact r _ _ | assumption | exact ⟨by omega, by omega⟩) (fun c_11 => ?_) (fun c_11 => ?_)
      ·
        refine V_iload2 G dX7_mostHeld_41 ?_
        exact V_reti E dX7_mostHeld_42 rfl rfl ⟨_, rfl, ⟨by rw [← hs]; simp [mxF], rfl⟩⟩
      · omega
    | succ m ih =>
      intro k a a4 hm_ hk0 ha hs
      have lk := lr k
      dsimp only at lk
      refine V_iload3 G dX7_mostHeld_4 ?_
      refine V_aload0 G dX7_mostHeld_5 ?_
      refine V_getR G fl_X7_7 dX7_mostHeld_6 (by first | decide | assumption) (by first | rfl | assumption) rfl (by first | rfl | assumption) ?_
      refine V_iconst G dX7_mostHeld_9 ?_
      refine V_ialde G dX7_mostHeld_10 (by first | decide | assumption) (by first | rfl | assumption) (by decide) ⟨by omega, by omega⟩ (by first | (simp only [hI_sI, hI_sL, hL_sI, hL_sL, false_and, true_and, and_false, and_true, and_self, if_false, if_true, hn]; first | done | rfl) | rfl) ?_
      refine V_icmpge G dX7_mostHeld_11 (tgt := 41) (by decide) (by first | exact r _ _ | assumption | exact ⟨by omega, by omega⟩) (by first | exact r _ _ | assumption | exact ⟨by omega, by omega⟩) (fun c_11 => ?_) (fun c_11 => ?_)
      · omega
      ·
        refine V_aload0 G dX7_mostHeld_14 ?_
        refine V_iload1 G dX7_mostHeld_15 ?_
        refine V_iload3 G dX7_mostHeld_16 ?_
        refine V_cV2i (d1 := 2) G m_X7_237 dX7_mostHeld_17 (by first | decide | assumption) (by first | rfl | assumption) (c_X7_holds r hn hn0 hk1 (w := k) ⟨by omega, by omega⟩) (by omega) (by omega) (by omega) (Nat.le_of_ble_eq_true rfl) (fun x_17 h_17 hp_17 => ?_)
        rw [hp_17.1, hp_17.2]
        refine V_istore4 G dX7_mostHeld_20 rfl ?_
        refine V_iload4 G dX7_mostHeld_22 ?_
        refine V_iload2 G dX7_mostHeld_24 ?_
        refine V_icmple G dX7_mostHeld_25 (tgt := 33) (by decide) (by first | exact r _ _ | assumption | exact ⟨by omega, by omega⟩) (by first | exact r _ _ | assumption | exact ⟨by omega, by omega⟩) (fun c_25 => ?_) (fun c_25 => ?_)
        ·
          refine V_iload2 G dX7_mostHeld_33 ?_
          refine V_istore2 G dX7_mostHeld_34 rfl ?_
          refine V_iinc3 G dX7_mostHeld_35 rfl ?_
          refine V_goto G dX7_mostHeld_38 (tgt := 4) (by decide) ?_
          exact ih (k + 1) _ _ (by omega) (by omega) (by omega) (by rw [← hs, mxF]; first | rw [if_pos (by omega)] | rw [if_neg (by omega)])
        ·
          refine V_iload4 G dX7_mostHeld_28 ?_
          refine V_goto G dX7_mostHeld_30 (tgt := 34) (by decide) ?_
          refine V_istore2 G dX7_mostHeld_34 rfl ?_
          refine V_iinc3 G dX7_mostHeld_35 rfl ?_
          refine V_goto G dX7_mostHeld_38 (tgt := 4) (by decide) ?_
          exact ih (k + 1) _ _ (by omega) (by omega) (by omega) (by rw [← hs, mxF]; first | rw [if_pos (by omega)] | rw [if_neg (by omega)])
  refine V_iconst G dX7_mostHeld_0 ?_
  refine V_istore2 G dX7_mostHeld_1 rfl ?_
  refine V_iconst G dX7_mostHeld_2 ?_
  refine V_istore3 G dX7_mostHeld_3 rfl ?_
  exact lp n.toNat 0 0 _ (by omega) (by omega) (by omega) rfl

set_option maxRecDepth 100000 in
set_option maxHeartbeats 4000000 in
theorem c_X7_haveHead {l : Launch} {d : Nat} {h : Hp} (r : Rg h) {lm : Int} (hlm : hI h 77 18 = lm) (hlm0 : 0 ≤ lm ∧ lm ≤ 400) (hlf : ∀ i, 0 ≤ i → i < lm → 0 ≤ hI h 90 i ∧ hI h 90 i < 400) {w hd1 : Int} (hw : 0 ≤ w ∧ w < 12) (hh : inr hd1) (hd : 2 ≤ d := by omega) : CP l d 0 0 yX7_haveHead cX7_haveHead 5 (Option.some Jvm.ClassFile.FieldType.int) [.ref 77, iv w, iv hd1] h (pI fun x h1 => x = sumF (fun i => if hI h 89 (12 * hI h 90 i + w) = hd1 then 1 else 0) lm.toNat 0 ∧ h1 = h) := by
  refine CP.ofV (L := [some (.ref 77), some (.int (Int32.ofInt w)), some (.int (Int32.ofInt hd1)), none, none]) RX7 (by decide +kernel) rfl (Nat.le_of_ble_eq_true rfl) rfl (fun X hX G E => ?_)
  subst hX
  have lp : ∀ (m : Nat) (k : Int) (acc : Int), k + m = lm → 0 ≤ k → acc + sumF (fun i => if hI h 89 (12 * hI h 90 i + w) = hd1 then 1 else 0) m k = sumF (fun i => if hI h 89 (12 * hI h 90 i + w) = hd1 then 1 else 0) lm.toNat 0 → V X 0 0 5 [some (.ref 77), some (.int (Int32.ofInt w)), some (.int (Int32.ofInt hd1)), some (.int (Int32.ofInt acc)), some (.int (Int32.ofInt k))] [] h := by
    intro m
    induction m with
    | zero =>
      intro k acc hm_ hk0 hs
      refine V_iload4 G dX7_haveHead_5 ?_
      refine V_aload0 G dX7_haveHead_7 ?_
      refine V_getIe (jz := 18) G fl_X7_142 dX7_haveHead_8 (by first | decide | assumption) (by first | rfl | assumption) rfl rfl (by first | (simp only [hI_sI, hI_sL, hL_sI, hL_sL, false_and, true_and, and_false, and_true, and_self, if_false, if_true, hlm]; first | done | rfl) | rfl) ?_
      refine V_icmpge G dX7_haveHead_11 (tgt := 44) (by decide) (by first | exact r _ _ | assumption | exact ⟨by omega, by omega⟩) (by first | exact r _ _ | assumption | exact ⟨by omega, by omega⟩) (fun c_11 => ?_) (fun c_11 => ?_)
      ·
        refine V_iload3 G dX7_haveHead_44 ?_
        exact V_reti E dX7_haveHead_45 rfl rfl ⟨_, rfl, ⟨by rw [← hs]; simp [sumF], rfl⟩⟩
      · omega
    | succ m ih =>
      intro k acc hm_ hk0 hs
      refine V_iload4 G dX7_haveHead_5 ?_
      refine V_aload0 G dX7_haveHead_7 ?_
      refine V_getIe (jz := 18) G fl_X7_142 dX7_haveHead_8 (by first | decide | assumption) (by first | rfl | assumption) rfl rfl (by first | (simp only [hI_sI, hI_sL, hL_sI, hL_sL, false_and, true_and, and_false, and_true, and_self, if_false, if_true, hlm]; first | done | rfl) | rfl) ?_
      refine V_icmpge G dX7_haveHead_11 (tgt := 44) (by decide) (by first | exact r _ _ | assumption | exact ⟨by omega, by omega⟩) (by first | exact r _ _ | assumption | exact ⟨by omega, by omega⟩) (fun c_11 => ?_) (fun c_11 => ?_)
      · omega
      ·
        refine V_iload3 G dX7_haveHead_14 ?_
        refine V_aload0 G dX7_haveHead_15 ?_
        refine V_aload0 G dX7_haveHead_16 ?_
        refine V_getR G fl_X7_47 dX7_haveHead_17 (by first | decide | assumption) (by first | rfl | assumption) rfl (by first | rfl | assumption) ?_
        refine V_iload4 G dX7_haveHead_20 ?_
        refine V_ialde G dX7_haveHead_22 (by first | decide | assumption) (by first | rfl | assumption) (by decide) ⟨by omega, by omega⟩ (by first | (simp only [hI_sI, hI_sL, hL_sI, hL_sL, false_and, true_and, and_false, and_true, and_self, if_false, if_true, hlm]; first | done | rfl) | rfl) ?_
        refine V_iload1 G dX7_haveHead_23 ?_
        refine V_cV2i (d1 := 1) G m_X7_148 dX7_haveHead_24 (by first | decide | assumption) (by first | rfl | assumption) (c_X7_head (k1 := hI h 90 k) (hlf k hk0 (by omega)) hw) (by omega) (by omega) (by omega) (Nat.le_of_ble_eq_true rfl) (fun x_24 h_24 hp_24 => ?_)
        rw [hp_24.1, hp_24.2]
        refine V_iload2 G dX7_haveHead_27 ?_
        refine V_icmpne G dX7_haveHead_28 (tgt := 35) (by decide) (by first | exact r _ _ | assumption | exact ⟨by omega, by omega⟩) (by first | exact r _ _ | assumption | exact ⟨by omega, by omega⟩) (fun c_28 => ?_) (fun c_28 => ?_)
        ·
          refine V_iconst G dX7_haveHead_35 ?_
          refine V_iadd G dX7_haveHead_36 ?_
          refine V_istore3 G dX7_haveHead_37 rfl ?_
          refine V_iinc4 G dX7_haveHead_38 rfl ?_
          refine V_goto G dX7_haveHead_41 (tgt := 5) (by decide) ?_
          exact ih (k + 1) _ (by omega) (by omega) (by
            rw [← hs]
            conv => rhs; rw [sumF]
            first
            | rw [if_pos (by omega)]
            | rw [if_neg (by omega)]
            omega)
        ·
          refine V_iconst G dX7_haveHead_31 ?_
          refine V_goto G dX7_haveHead_32 (tgt := 36) (by decide) ?_
          refine V_iadd G dX7_haveHead_36 ?_
          refine V_istore3 G dX7_haveHead_37 rfl ?_
          refine V_iinc4 G dX7_haveHead_38 rfl ?_
          refine V_goto G dX7_haveHead_41 (tgt := 5) (by decide) ?_
          exact ih (k + 1) _ (by omega) (by omega) (by
            rw [← hs]
            conv => rhs; rw [sumF]
            first
            | rw [if_pos (by omega)]
            | rw [if_neg (by omega)]
            omega)
  refine V_iconst G dX7_haveHead_0 ?_
  refine V_istore3 G dX7_haveHead_1 rfl ?_
  refine V_iconst G dX7_haveHead_2 ?_
  refine V_istore4 G dX7_haveHead_3 rfl ?_
  exact lp lm.toNat 0 0 (by omega) (by omega) (by simp)

set_option maxRecDepth 100000 in
set_option maxHeartbeats 4000000 in
theorem c_X7_headsOf {l : Launch} {d : Nat} {h : Hp} (r : Rg h) {n : Int} (hn : hI h 78 0 = n) (hn0 : 0 ≤ n ∧ n ≤ 12) {lm : Int} (hlm : hI h 77 18 = lm) (hlm0 : 0 ≤ lm ∧ lm ≤ 400) (hlf : ∀ i, 0 ≤ i → i < lm → 0 ≤ hI h 90 i ∧ hI h 90 i < 400) {w ms : Int} (hw : 0 ≤ w ∧ w < 12) (hm : ms = 0 ∨ ms = 1) (hd : 3 ≤ d := by omega) : CP l d 0 0 yX7_headsOf cX7_headsOf 7 (Option.some Jvm.ClassFile.FieldType.int) [.ref 77, iv w, iv ms] h (pI fun x h1 => x = (if ms = 0 then sumF (fun hd1 => if 0 < sumF (fun i => if hI h 89 (12 * hI h 90 i + w) = hd1 then 1 else 0) lm.toNat 0 then 1 else 0) (n + 1).toNat (-1) else mxF (fun hd1 => sumF (fun i => if hI h 89 (12 * hI h 90 i + w) = hd1 then 1 else 0) lm.toNat 0) (n + 1).toNat (-1) 0) ∧ h1 = h) := by
  refine CP.ofV (L := [some (.ref 77), some (.int (Int32.ofInt w)), some (.int (Int32.ofInt ms)), none, none, none, none]) RX7 (by decide +kernel) rfl (Nat.le_of_ble_eq_true rfl) rfl (fun X hX G E => ?_)
  subst hX
  have lr : ∀ w1, 0 ≤ (fun hd1 => sumF (fun i => if hI h 89 (12 * hI h 90 i + w) = hd1 then 1 else 0) lm.toNat 0) w1 ∧ (fun hd1 => sumF (fun i => if hI h 89 (12 * hI h 90 i + w) = hd1 then 1 else 0) lm.toNat 0) w1 ≤ 400 := fun w1 => by
    have := sumF_le (f := fun i => if hI h 89 (12 * hI h 90 i + w) = w1 then 1 else 0) (b := 1) (by omega) lm.toNat 0 (fun j => by split <;> omega)
    dsimp only
    omega
  have lp : ∀ (m : Nat) (k : Int) (acc : Int) (a : Int) (a6 : Option Value), k + m = n → -1 ≤ k → 0 ≤ a ∧ a ≤ 400 → acc + sumF (fun hd1 => if 0 < sumF (fun i => if hI h 89 (12 * hI h 90 i + w) = hd1 then 1 else 0) lm.toNat 0 then 1 else 0) m k = sumF (fun hd1 => if 0 < sumF (fun i => if hI h 89 (12 * hI h 90 i + w) = hd1 then 1 else 0) lm.toNat 0 then 1 else 0) (n + 1).toNat (-1) → mxF (fun hd1 => sumF (fun i => if hI h 89 (12 * hI h 90 i + w) = hd1 then 1 else 0) lm.toNat 0) m k a = mxF (fun hd1 => sumF (fun i => if hI h 89 (12 * hI h 90 i + w) = hd1 then 1 else 0) lm.toNat 0) (n + 1).toNat (-1) 0 → V X 0 0 8 [some (.ref 77), some (.int (Int32.ofInt w)), some (.int (Int32.ofInt ms)), some (.int (Int32.ofInt acc)), some (.int (Int32.ofInt a)), some (.int (Int32.ofInt k)), a6] [] h := by
    intro m
    induction m with
    | zero =>
      intro k acc a a6 hm_ hk0 ha hs hs2
      have lk := lr k
      dsimp only at lk
      refine V_iload5 G dX7_headsOf_8 ?_
      refine V_aload0 G dX7_headsOf_10 ?_
      refine V_getR G fl_X7_7 dX7_headsOf_11 (by first | decide | assumption) (by first | rfl | assumption) rfl (by first | rfl | assumption) ?_
      refine V_iconst G dX7_headsOf_14 ?_
      refine V_ialde G dX7_headsOf_15 (by first | decide | assumption) (by first | rfl | assumption) (by decide) ⟨by omega, by omega⟩ (by first | (simp only [hI_sI, hI_sL, hL_sI, hL_sL, false_and, true_and, and_false, and_true, and_self, if_false, if_true, hn]; first | done | rfl) | rfl) ?_
      refine V_icmpge G dX7_headsOf_16 (tgt := 63) (by decide) (by first | exact r _ _ | assumption | exact ⟨by omega, by omega⟩) (by first | exact r _ _ | assumption | exact ⟨by omega, by omega⟩) (fun c_16 => ?_) (fun c_16 => ?_)
      ·
        refine V_iload2 G dX7_headsOf_63 ?_
        refine V_ifeq G dX7_headsOf_64 (tgt := 72) (by decide) (by first | exact r _ _ | assumption | exact ⟨by omega, by omega⟩) (fun c_64 => ?_) (fun c_64 => ?_)
        ·
          refine V_iload3 G dX7_headsOf_72 ?_
          exact V_reti E dX7_headsOf_73 rfl rfl ⟨_, rfl, ⟨by first | (rw [if_pos (by omega), ← hs]; simp [sumF]; done) | (rw [if_neg (by omega), ← hs2]; simp [mxF]; done), rfl⟩⟩
        ·
          refine V_iload4 G dX7_headsOf_67 ?_
          refine V_goto G dX7_headsOf_69 (tgt := 73) (by decide) ?_
          exact V_reti E dX7_headsOf_73 rfl rfl ⟨_, rfl, ⟨by first | (rw [if_pos (by omega), ← hs]; simp [sumF]; done) | (rw [if_neg (by omega), ← hs2]; simp [mxF]; done), rfl⟩⟩
      · omega
    | succ m ih =>
      intro k acc a a6 hm_ hk0 ha hs hs2
      have lk := lr k
      dsimp only at lk
      refine V_iload5 G dX7_headsOf_8 ?_
      refine V_aload0 G dX7_headsOf_10 ?_
      refine V_getR G fl_X7_7 dX7_headsOf_11 (by first | decide | assumption) (by first | rfl | assumption) rfl (by first | rfl | assumption) ?_
      refine V_iconst G dX7_headsOf_14 ?_
      refine V_ialde G dX7_headsOf_15 (by first | decide | assumption) (by first | rfl | assumption) (by decide) ⟨by omega, by omega⟩ (by first | (simp only [hI_sI, hI_sL, hL_sI, hL_sL, false_and, true_and, and_false, and_true, and_self, if_false, if_true, hn]; first | done | rfl) | rfl) ?_
      refine V_icmpge G dX7_headsOf_16 (tgt := 63) (by decide) (by first | exact r _ _ | assumption | exact ⟨by omega, by omega⟩) (by first | exact r _ _ | assumption | exact ⟨by omega, by omega⟩) (fun c_16 => ?_) (fun c_16 => ?_)
      · omega
      ·
        refine V_aload0 G dX7_headsOf_19 ?_
        refine V_iload1 G dX7_headsOf_20 ?_
        refine V_iload5 G dX7_headsOf_21 ?_
        refine V_cV2i (d1 := 2) G m_X7_223 dX7_headsOf_23 (by first | decide | assumption) (by first | rfl | assumption) (c_X7_haveHead r hlm hlm0 hlf (w := w) (hd1 := k) hw ⟨by omega, by omega⟩) (by omega) (by omega) (by omega) (Nat.le_of_ble_eq_true rfl) (fun x_23 h_23 hp_23 => ?_)
        rw [hp_23.1, hp_23.2]
        refine V_istore6 G dX7_headsOf_26 rfl ?_
        refine V_iload3 G dX7_headsOf_28 ?_
        refine V_iload6 G dX7_headsOf_29 ?_
        refine V_ifle G dX7_headsOf_31 (tgt := 38) (by decide) (by first | exact r _ _ | assumption | exact ⟨by omega, by omega⟩) (fun c_31 => ?_) (fun c_31 => ?_)
        ·
          refine V_iconst G dX7_headsOf_38 ?_
          refine V_iadd G dX7_headsOf_39 ?_
          refine V_istore3 G dX7_headsOf_40 rfl ?_
          refine V_iload6 G dX7_headsOf_41 ?_
          refine V_iload4 G dX7_headsOf_43 ?_
          refine V_icmple G dX7_headsOf_45 (tgt := 53) (by decide) (by first | exact r _ _ | assumption | exact ⟨by omega, by omega⟩) (by first | exact r _ _ | assumption | exact ⟨by omega, by omega⟩) (fun c_45 => ?_) (fun c_45 => ?_)
          ·
            refine V_iload4 G dX7_headsOf_53 ?_
            refine V_istore4 G dX7_headsOf_55 rfl ?_
            refine V_iinc5 G dX7_headsOf_57 rfl ?_
            refine V_goto G dX7_headsOf_60 (tgt := 8) (by decide) ?_
            exact ih (k + 1) _ _ _ (by omega) (by omega) (by omega) (by
              rw [← hs]
              conv => rhs; rw [sumF]
              first
              | rw [if_pos (by omega)]
              | rw [if_neg (by omega)]
              omega) (by rw [← hs2, mxF]; first | rw [if_pos (by omega)] | rw [if_neg (by omega)])
          ·
            refine V_iload6 G dX7_headsOf_48 ?_
            refine V_goto G dX7_headsOf_50 (tgt := 55) (by decide) ?_
            refine V_istore4 G dX7_headsOf_55 rfl ?_
            refine V_iinc5 G dX7_headsOf_57 rfl ?_
            refine V_goto G dX7_headsOf_60 (tgt := 8) (by decide) ?_
            exact ih (k + 1) _ _ _ (by omega) (by omega) (by omega) (by
              rw [← hs]
              conv => rhs; rw [sumF]
              first
              | rw [if_pos (by omega)]
              | rw [if_neg (by omega)]
              omega) (by rw [← hs2, mxF]; first | rw [if_pos (by omega)] | rw [if_neg (by omega)])
        ·
          refine V_iconst G dX7_headsOf_34 ?_
          refine V_goto G dX7_headsOf_35 (tgt := 39) (by decide) ?_
          refine V_iadd G dX7_headsOf_39 ?_
          refine V_istore3 G dX7_headsOf_40 rfl ?_
          refine V_iload6 G dX7_headsOf_41 ?_
          refine V_iload4 G dX7_headsOf_43 ?_
          refine V_icmple G dX7_headsOf_45 (tgt := 53) (by decide) (by first | exact r _ _ | assumption | exact ⟨by omega, by omega⟩) (by first | exact r _ _ | assumption | exact ⟨by omega, by omega⟩) (fun c_45 => ?_) (fun c_45 => ?_)
          ·
            refine V_iload4 G dX7_headsOf_53 ?_
            refine V_istore4 G dX7_headsOf_55 rfl ?_
            refine V_iinc5 G dX7_headsOf_57 rfl ?_
            refine V_goto G dX7_headsOf_60 (tgt := 8) (by decide) ?_
            exact ih (k + 1) _ _ _ (by omega) (by omega) (by omega) (by
              rw [← hs]
              conv => rhs; rw [sumF]
              first
              | rw [if_pos (by omega)]
              | rw [if_neg (by omega)]
              omega) (by rw [← hs2, mxF]; first | rw [if_pos (by omega)] | rw [if_neg (by omega)])
          ·
            refine V_iload6 G dX7_headsOf_48 ?_
            refine V_goto G dX7_headsOf_50 (tgt := 55) (by decide) ?_
            refine V_istore4 G dX7_headsOf_55 rfl ?_
            refine V_iinc5 G dX7_headsOf_57 rfl ?_
            refine V_goto G dX7_headsOf_60 (tgt := 8) (by decide) ?_
            exact ih (k + 1) _ _ _ (by omega) (by omega) (by omega) (by
              rw [← hs]
              conv => rhs; rw [sumF]
              first
              | rw [if_pos (by omega)]
              | rw [if_neg (by omega)]
              omega) (by rw [← hs2, mxF]; first | rw [if_pos (by omega)] | rw [if_neg (by omega)])
  refine V_iconst G dX7_headsOf_0 ?_
  refine V_istore3 G dX7_headsOf_1 rfl ?_
  refine V_iconst G dX7_headsOf_2 ?_
  refine V_istore4 G dX7_headsOf_3 rfl ?_
  refine V_iconst G dX7_headsOf_5 ?_
  refine V_istore5 G dX7_headsOf_6 rfl ?_
  exact lp (n + 1).toNat (-1) 0 0 _ (by omega) (by omega) (by omega) (by simp) rfl

set_option maxRecDepth 100000 in
set_option maxHeartbeats 4000000 in
theorem c_X7_drawn {l : Launch} {d : Nat} {h : Hp} (r : Rg h) {lm : Int} (hlm : hI h 77 18 = lm) (hlm0 : 0 ≤ lm ∧ lm ≤ 400) (hd1 : lm = 0 ∨ (0 ≤ hI h 78 1 ∧ hI h 78 1 < 400)) (hd : 1 ≤ d := by omega) : CP l d 0 0 yX7_drawn cX7_drawn 1 (Option.some Jvm.ClassFile.FieldType.int) [.ref 77] h (pI fun x h1 => x = (if lm = 0 then -1 else hI h 90 (hI h 78 1)) ∧ h1 = h) := by
  refine CP.ofV (L := [some (.ref 77)]) RX7 (by decide +kernel) rfl (Nat.le_of_ble_eq_true rfl) rfl (fun X hX G E => ?_)
  subst hX
  refine V_aload0 G dX7_drawn_0 ?_
  refine V_getIe (jz := 18) G fl_X7_142 dX7_drawn_1 (by first | decide | assumption) (by first | rfl | assumption) rfl rfl (by first | (simp only [hI_sI, hI_sL, hL_sI, hL_sL, false_and, true_and, and_false, and_true, and_self, if_false, if_true, hlm]; first | done | rfl) | rfl) ?_
  refine V_ifne G dX7_drawn_4 (tgt := 11) (by decide) (by first | exact r _ _ | assumption | exact ⟨by omega, by omega⟩) (fun c_4 => ?_) (fun c_4 => ?_)
  ·
    refine V_aload0 G dX7_drawn_11 ?_
    refine V_getR G fl_X7_47 dX7_drawn_12 (by first | decide | assumption) (by first | rfl | assumption) rfl (by first | rfl | assumption) ?_
    refine V_aload0 G dX7_drawn_15 ?_
    refine V_getR G fl_X7_7 dX7_drawn_16 (by first | decide | assumption) (by first | rfl | assumption) rfl (by first | rfl | assumption) ?_
    refine V_iconst G dX7_drawn_19 ?_
    refine V_ialde G dX7_drawn_20 (by first | decide | assumption) (by first | rfl | assumption) (by decide) ⟨by omega, by omega⟩ (by first | (simp only [hI_sI, hI_sL, hL_sI, hL_sL, false_and, true_and, and_false, and_true, and_self, if_false, if_true, hlm]; first | done | rfl) | rfl) ?_
    refine V_ialde G dX7_drawn_21 (by first | decide | assumption) (by first | rfl | assumption) (by decide) ⟨by omega, by omega⟩ (by first | (simp only [hI_sI, hI_sL, hL_sI, hL_sL, false_and, true_and, and_false, and_true, and_self, if_false, if_true, hlm]; first | done | rfl) | rfl) ?_
    exact V_reti E dX7_drawn_22 rfl rfl ⟨_, rfl, ⟨by first | (rw [if_pos (by omega)]; done) | (rw [if_neg (by omega)]; done), rfl⟩⟩
  ·
    refine V_iconst G dX7_drawn_7 ?_
    refine V_goto G dX7_drawn_8 (tgt := 22) (by decide) ?_
    exact V_reti E dX7_drawn_22 rfl rfl ⟨_, rfl, ⟨by first | (rw [if_pos (by omega)]; done) | (rw [if_neg (by omega)]; done), rfl⟩⟩

end M8
