section M14

def letF (k : Int) : Int := if k = 0 then 110 else if k = 1 then 118 else if k = 2 then 97 else if k = 3 then 100 else if k = 4 then 112 else if k = 5 then 99 else 116
def knF (z : Int) : Int := if z = 110 then 0 else if z = 118 then 1 else if z = 97 then 2 else if z = 100 then 3 else if z = 112 then 4 else if z = 99 then 5 else if z = 116 then 6 else -1
def kF (z : Int) : Nat → Int → Int → Int
  | 0, _, its => its
  | m + 1, k, its => kF z m (k + 1) (if letF k = z then k else its)
theorem kF_7 (z : Int) : kF z 7 0 (-1) = knF z := by
  simp only [kF, letF, knF]
  simp
  repeat' split
  all_goals omega
theorem knF_r (z : Int) : -1 ≤ knF z ∧ knF z ≤ 6 := by
  unfold knF
  repeat' split
  all_goals omega
theorem letF_r (k : Int) : 97 ≤ letF k ∧ letF k ≤ 118 := by
  unfold letF
  repeat' split
  all_goals omega
theorem kF_r (z : Int) : ∀ (m : Nat) (k its : Int), -1 ≤ its ∧ its ≤ 12 → -1 ≤ k → k + m ≤ 12 → -1 ≤ kF z m k its ∧ kF z m k its ≤ 12
  | 0, _, _, h, _, _ => h
  | m + 1, k, its, h, h1, h2 => by
    rw [kF]
    refine kF_r z m (k + 1) _ ?_ (by omega) (by omega)
    split <;> omega

set_option maxRecDepth 100000 in
set_option maxHeartbeats 4000000 in
theorem c_X7_letterOf {l : Launch} {d : Nat} {h : Hp} {k : Int} (hk : inr k) (hd : 1 ≤ d := by omega) : CP l d 0 0 yX7_letterOf cX7_letterOf 1 (Option.some Jvm.ClassFile.FieldType.int) [iv k] h (pI fun x h1 => x = letF k ∧ h1 = h) := by
  refine CP.ofV (L := [some (.int (Int32.ofInt k))]) RX7 (by decide +kernel) rfl (Nat.le_of_ble_eq_true rfl) rfl (fun X hX G E => ?_)
  subst hX
  refine V_iload0 G dX7_letterOf_0 ?_
  rcases (show k = 0 ∨ k = 1 ∨ k = 2 ∨ k = 3 ∨ k = 4 ∨ k = 5 ∨ (k < 0 ∨ 5 < k) by omega) with e_1 | e_1 | e_1 | e_1 | e_1 | e_1 | e_1
  · rw [e_1]
    refine V_tableIn G dX7_letterOf_1 (tgt := 40) ⟨by decide, by decide⟩ (by decide) (by decide) rfl (by decide) ?_
    refine V_bipush G dX7_letterOf_40 (by decide) ?_
    exact V_reti E dX7_letterOf_42 rfl rfl ⟨_, rfl, ⟨by unfold letF; first | (rw [if_pos (by omega)]; done) | (rw [if_neg (by omega), if_pos (by omega)]; done) | (rw [if_neg (by omega), if_neg (by omega), if_pos (by omega)]; done) | (rw [if_neg (by omega), if_neg (by omega), if_neg (by omega), if_pos (by omega)]; done) | (rw [if_neg (by omega), if_neg (by omega), if_neg (by omega), if_neg (by omega), if_pos (by omega)]; done) | (rw [if_neg (by omega), if_neg (by omega), if_neg (by omega), if_neg (by omega), if_neg (by omega), if_pos (by omega)]; done) | (rw [if_neg (by omega), if_neg (by omega), if_neg (by omega), if_neg (by omega), if_neg (by omega), if_neg (by omega)]; done), rfl⟩⟩
  · rw [e_1]
    refine V_tableIn G dX7_letterOf_1 (tgt := 43) ⟨by decide, by decide⟩ (by decide) (by decide) rfl (by decide) ?_
    refine V_bipush G dX7_letterOf_43 (by decide) ?_
    exact V_reti E dX7_letterOf_45 rfl rfl ⟨_, rfl, ⟨by unfold letF; first | (rw [if_pos (by omega)]; done) | (rw [if_neg (by omega), if_pos (by omega)]; done) | (rw [if_neg (by omega), if_neg (by omega), if_pos (by omega)]; done) | (rw [if_neg (by omega), if_neg (by omega), if_neg (by omega), if_pos (by omega)]; done) | (rw [if_neg (by omega), if_neg (by omega), if_neg (by omega), if_neg (by omega), if_pos (by omega)]; done) | (rw [if_neg (by omega), if_neg (by omega), if_neg (by omega), if_neg (by omega), if_neg (by omega), if_pos (by omega)]; done) | (rw [if_neg (by omega), if_neg (by omega), if_neg (by omega), if_neg (by omega), if_neg (by omega), if_neg (by omega)]; done), rfl⟩⟩
  · rw [e_1]
    refine V_tableIn G dX7_letterOf_1 (tgt := 46) ⟨by decide, by decide⟩ (by decide) (by decide) rfl (by decide) ?_
    refine V_bipush G dX7_letterOf_46 (by decide) ?_
    exact V_reti E dX7_letterOf_48 rfl rfl ⟨_, rfl, ⟨by unfold letF; first | (rw [if_pos (by omega)]; done) | (rw [if_neg (by omega), if_pos (by omega)]; done) | (rw [if_neg (by omega), if_neg (by omega), if_pos (by omega)]; done) | (rw [if_neg (by omega), if_neg (by omega), if_neg (by omega), if_pos (by omega)]; done) | (rw [if_neg (by omega), if_neg (by omega), if_neg (by omega), if_neg (by omega), if_pos (by omega)]; done) | (rw [if_neg (by omega), if_neg (by omega), if_neg (by omega), if_neg (by omega), if_neg (by omega), if_pos (by omega)]; done) | (rw [if_neg (by omega), if_neg (by omega), if_neg (by omega), if_neg (by omega), if_neg (by omega), if_neg (by omega)]; done), rfl⟩⟩
  · rw [e_1]
    refine V_tableIn G dX7_letterOf_1 (tgt := 49) ⟨by decide, by decide⟩ (by decide) (by decide) rfl (by decide) ?_
    refine V_bipush G dX7_letterOf_49 (by decide) ?_
    exact V_reti E dX7_letterOf_51 rfl rfl ⟨_, rfl, ⟨by unfold letF; first | (rw [if_pos (by omega)]; done) | (rw [if_neg (by omega), if_pos (by omega)]; done) | (rw [if_neg (by omega), if_neg (by omega), if_pos (by omega)]; done) | (rw [if_neg (by omega), if_neg (by omega), if_neg (by omega), if_pos (by omega)]; done) | (rw [if_neg (by omega), if_neg (by omega), if_neg (by omega), if_neg (by omega), if_pos (by omega)]; done) | (rw [if_neg (by omega), if_neg (by omega), if_neg (by omega), if_neg (by omega), if_neg (by omega), if_pos (by omega)]; done) | (rw [if_neg (by omega), if_neg (by omega), if_neg (by omega), if_neg (by omega), if_neg (by omega), if_neg (by omega)]; done), rfl⟩⟩
  · rw [e_1]
    refine V_tableIn G dX7_letterOf_1 (tgt := 52) ⟨by decide, by decide⟩ (by decide) (by decide) rfl (by decide) ?_
    refine V_bipush G dX7_letterOf_52 (by decide) ?_
    exact V_reti E dX7_letterOf_54 rfl rfl ⟨_, rfl, ⟨by unfold letF; first | (rw [if_pos (by omega)]; done) | (rw [if_neg (by omega), if_pos (by omega)]; done) | (rw [if_neg (by omega), if_neg (by omega), if_pos (by omega)]; done) | (rw [if_neg (by omega), if_neg (by omega), if_neg (by omega), if_pos (by omega)]; done) | (rw [if_neg (by omega), if_neg (by omega), if_neg (by omega), if_neg (by omega), if_pos (by omega)]; done) | (rw [if_neg (by omega), if_neg (by omega), if_neg (by omega), if_neg (by omega), if_neg (by omega), if_pos (by omega)]; done) | (rw [if_neg (by omega), if_neg (by omega), if_neg (by omega), if_neg (by omega), if_neg (by omega), if_neg (by omega)]; done), rfl⟩⟩
  · rw [e_1]
    refine V_tableIn G dX7_letterOf_1 (tgt := 55) ⟨by decide, by decide⟩ (by decide) (by decide) rfl (by decide) ?_
    refine V_bipush G dX7_letterOf_55 (by decide) ?_
    exact V_reti E dX7_letterOf_57 rfl rfl ⟨_, rfl, ⟨by unfold letF; first | (rw [if_pos (by omega)]; done) | (rw [if_neg (by omega), if_pos (by omega)]; done) | (rw [if_neg (by omega), if_neg (by omega), if_pos (by omega)]; done) | (rw [if_neg (by omega), if_neg (by omega), if_neg (by omega), if_pos (by omega)]; done) | (rw [if_neg (by omega), if_neg (by omega), if_neg (by omega), if_neg (by omega), if_pos (by omega)]; done) | (rw [if_neg (by omega), if_neg (by omega), if_neg (by omega), if_neg (by omega), if_neg (by omega), if_pos (by omega)]; done) | (rw [if_neg (by omega), if_neg (by omega), if_neg (by omega), if_neg (by omega), if_neg (by omega), if_neg (by omega)]; done), rfl⟩⟩
  ·
    refine V_tableOut G dX7_letterOf_1 (tgt := 58) hk (by omega) (by decide) ?_
    refine V_bipush G dX7_letterOf_58 (by decide) ?_
    exact V_reti E dX7_letterOf_60 rfl rfl ⟨_, rfl, ⟨by unfold letF; first | (rw [if_pos (by omega)]; done) | (rw [if_neg (by omega), if_pos (by omega)]; done) | (rw [if_neg (by omega), if_neg (by omega), if_pos (by omega)]; done) | (rw [if_neg (by omega), if_neg (by omega), if_neg (by omega), if_pos (by omega)]; done) | (rw [if_neg (by omega), if_neg (by omega), if_neg (by omega), if_neg (by omega), if_pos (by omega)]; done) | (rw [if_neg (by omega), if_neg (by omega), if_neg (by omega), if_neg (by omega), if_neg (by omega), if_pos (by omega)]; done) | (rw [if_neg (by omega), if_neg (by omega), if_neg (by omega), if_neg (by omega), if_neg (by omega), if_neg (by omega)]; done), rfl⟩⟩

set_option maxRecDepth 100000 in
set_option maxHeartbeats 4000000 in
theorem c_X7_kindOf {l : Launch} {d : Nat} {h : Hp} {z : Int} (hz : inr z) (hd : 2 ≤ d := by omega) : CP l d 0 0 yX7_kindOf cX7_kindOf 3 (Option.some Jvm.ClassFile.FieldType.int) [iv z] h (pI fun x h1 => x = knF z ∧ h1 = h) := by
  refine CP.ofV (L := [some (.int (Int32.ofInt z)), none, none]) RX7 (by decide +kernel) rfl (Nat.le_of_ble_eq_true rfl) rfl (fun X hX G E => ?_)
  subst hX
  have lp : ∀ (m : Nat) (k : Int) (its : Int), k + m = 7 → 0 ≤ k → kF z m k its = kF z 7 0 (-1) → V X 0 0 4 [some (.int (Int32.ofInt z)), some (.int (Int32.ofInt its)), some (.int (Int32.ofInt k))] [] h := by
    intro m
    induction m with
    | zero =>
      intro k its hm_ hk0 hs
      refine V_iload2 G dX7_kindOf_4 ?_
      refine V_bipush G dX7_kindOf_5 (by decide) ?_
      refine V_icmpge G dX7_kindOf_7 (tgt := 30) (by decide) (by first | exact r _ _ | assumption | exact ⟨by omega, by omega⟩) (by first | exact r _ _ | assumption | exact ⟨by omega, by omega⟩) (fun c_7 => ?_) (fun c_7 => ?_)
      ·
        refine V_iload1 G dX7_kindOf_30 ?_
        exact V_reti E dX7_kindOf_31 rfl rfl ⟨_, rfl, ⟨by rw [← kF_7, ← hs]; rfl, rfl⟩⟩
      · omega
    | succ m ih =>
      intro k its hm_ hk0 hs
      refine V_iload2 G dX7_kindOf_4 ?_
      refine V_bipush G dX7_kindOf_5 (by decide) ?_
      refine V_icmpge G dX7_kindOf_7 (tgt := 30) (by decide) (by first | exact r _ _ | assumption | exact ⟨by omega, by omega⟩) (by first | exact r _ _ | assumption | exact ⟨by omega, by omega⟩) (fun c_7 => ?_) (fun c_7 => ?_)
      · omega
      ·
        refine V_iload2 G dX7_kindOf_10 ?_
        refine V_cS1i (d1 := 1) G m_X7_214 dX7_kindOf_11 (c_X7_letterOf (k := k) ⟨by omega, by omega⟩) (by omega) (by omega) (by omega) (Nat.le_of_ble_eq_true rfl) (fun x_11 h_11 hp_11 => ?_)
        rw [hp_11.1, hp_11.2]
        have hlr := letF_r k
        refine V_iload0 G dX7_kindOf_14 ?_
        refine V_icmpne G dX7_kindOf_15 (tgt := 22) (by decide) (by first | exact r _ _ | assumption | exact ⟨by omega, by omega⟩) (by first | exact r _ _ | assumption | exact ⟨by omega, by omega⟩) (fun c_15 => ?_) (fun c_15 => ?_)
        ·
          refine V_iload1 G dX7_kindOf_22 ?_
          refine V_istore1 G dX7_kindOf_23 rfl ?_
          refine V_iinc2 G dX7_kindOf_24 rfl ?_
          refine V_goto G dX7_kindOf_27 (tgt := 4) (by decide) ?_
          exact ih (k + 1) _ (by omega) (by omega) (by rw [← hs, kF]; first | rw [if_pos (by omega)] | rw [if_neg (by omega)])
        ·
          refine V_iload2 G dX7_kindOf_18 ?_
          refine V_goto G dX7_kindOf_19 (tgt := 23) (by decide) ?_
          refine V_istore1 G dX7_kindOf_23 rfl ?_
          refine V_iinc2 G dX7_kindOf_24 rfl ?_
          refine V_goto G dX7_kindOf_27 (tgt := 4) (by decide) ?_
          exact ih (k + 1) _ (by omega) (by omega) (by rw [← hs, kF]; first | rw [if_pos (by omega)] | rw [if_neg (by omega)])
  refine V_iconst G dX7_kindOf_0 ?_
  refine V_istore1 G dX7_kindOf_1 rfl ?_
  refine V_iconst G dX7_kindOf_2 ?_
  refine V_istore2 G dX7_kindOf_3 rfl ?_
  exact lp 7 0 (-1) (by omega) (by omega) rfl


/-- the first character that can't be: from k on, at most m more looks -/
def erF (b : Int → Int) (len : Int) : Nat → Int → Int
  | 0, k => k
  | m + 1, k => if k < len ∧ k < 12 ∧ knF (b k) ≠ -1 then erF b len m (k + 1) else k
def bfA (bf : List Int) : Int → Int := fun k => (bf[k.toNat]?).getD 0
def erS (bf : List Int) : Int := erF (bfA bf) bf.length 12 0
theorem erF_r (b : Int → Int) (len : Int) : ∀ (m : Nat) (k : Int), 0 ≤ k → k ≤ len → k + m ≤ 12 → k ≤ erF b len m k ∧ erF b len m k ≤ len ∧ erF b len m k ≤ 12
  | 0, k, h, h2, h3 => by simp [erF]; omega
  | m + 1, k, h, h2, h3 => by
    rw [erF]
    split
    · have := erF_r b len m (k + 1) (by omega) (by omega) (by omega)
      omega
    · omega
theorem erF_all (b : Int → Int) (len : Int) : ∀ (m : Nat) (k : Int), 0 ≤ k → erF b len m k = len → ∀ j, k ≤ j → j < len → knF (b j) ≠ -1
  | 0, k, h, h2, j, j1, j2 => by simp [erF] at h2; omega
  | m + 1, k, h, h2, j, j1, j2 => by
    rw [erF] at h2
    split at h2
    · next hc =>
      by_cases e : j = k
      · rw [e]; exact hc.2.2
      · exact erF_all b len m (k + 1) (by omega) h2 j (by omega) j2
    · omega
theorem RepM.bf {g : Sg} {h : Hp} (R : RepM g h) {k : Int} (k0 : 0 ≤ k) (k1 : k < g.2.2.2.2.length) : hI h 82 k = bfA g.2.2.2.2 k := by
  obtain ⟨z, hz⟩ : ∃ z, g.2.2.2.2[k.toNat]? = some z := ⟨_, List.getElem?_eq_getElem (by omega)⟩
  have := R.2.2.2.2.2.2 k.toNat z hz
  unfold bfA
  rw [hz]
  rwa [show ((k.toNat : Nat) : Int) = k by omega] at this

set_option maxRecDepth 100000 in
set_option maxHeartbeats 4000000 in
theorem c_X7_errorAt {l : Launch} {d : Nat} {h : Hp} (r : Rg h) {g : Sg} (R : RepM g h) (hb20 : g.2.2.2.2.length ≤ 20) (hd : 3 ≤ d := by omega) : CP l d 0 0 yX7_errorAt cX7_errorAt 2 (Option.some Jvm.ClassFile.FieldType.int) [.ref 77] h (pI fun x h1 => x = erS g.2.2.2.2 ∧ h1 = h) := by
  refine CP.ofV (L := [some (.ref 77), none]) RX7 (by decide +kernel) rfl (Nat.le_of_ble_eq_true rfl) rfl (fun X hX G E => ?_)
  subst hX
  have hbl := R.2.2.2.2.2.1
  have lp : ∀ (m : Nat) (k : Int), 0 ≤ k → k + m = 12 → k ≤ g.2.2.2.2.length → erF (bfA g.2.2.2.2) g.2.2.2.2.length m k = erS g.2.2.2.2 → V X 0 0 2 [some (.ref 77), some (.int (Int32.ofInt k))] [] h := by
    intro m
    induction m with
    | zero =>
      intro k k0 k1 k2 hs
      refine V_iload1 G dX7_errorAt_2 ?_
      refine V_aload0 G dX7_errorAt_3 ?_
      refine V_getIe (jz := 7) G fl_X7_211 dX7_errorAt_4 (by first | decide | assumption) (by first | rfl | assumption) rfl rfl (by first | (simp only [hI_sI, hI_sL, hL_sI, hL_sL, false_and, true_and, and_false, and_true, and_self, if_false, if_true, hbl]; first | done | rfl) | rfl) ?_
      refine V_icmpge G dX7_errorAt_7 (tgt := 35) (by decide) (by first | exact r _ _ | assumption | exact ⟨by omega, by omega⟩) (by first | exact r _ _ | assumption | exact ⟨by omega, by omega⟩) (fun c_7 => ?_) (fun c_7 => ?_)
      ·
        refine V_iload1 G dX7_errorAt_35 ?_
        exact V_reti E dX7_errorAt_36 rfl rfl ⟨_, rfl, ⟨hs, rfl⟩⟩
      ·
        refine V_iload1 G dX7_errorAt_10 ?_
        refine V_bipush G dX7_errorAt_11 (by decide) ?_
        refine V_icmpge G dX7_errorAt_13 (tgt := 35) (by decide) (by first | exact r _ _ | assumption | exact ⟨by omega, by omega⟩) (by first | exact r _ _ | assumption | exact ⟨by omega, by omega⟩) (fun c_13 => ?_) (fun c_13 => ?_)
        ·
          refine V_iload1 G dX7_errorAt_35 ?_
          exact V_reti E dX7_errorAt_36 rfl rfl ⟨_, rfl, ⟨hs, rfl⟩⟩
        · omega
    | succ m ih =>
      intro k k0 k1 k2 hs
      refine V_iload1 G dX7_errorAt_2 ?_
      refine V_aload0 G dX7_errorAt_3 ?_
      refine V_getIe (jz := 7) G fl_X7_211 dX7_errorAt_4 (by first | decide | assumption) (by first | rfl | assumption) rfl rfl (by first | (simp only [hI_sI, hI_sL, hL_sI, hL_sL, false_and, true_and, and_false, and_true, and_self, if_false, if_true, hbl]; first | done | rfl) | rfl) ?_
      refine V_icmpge G dX7_errorAt_7 (tgt := 35) (by decide) (by first | exact r _ _ | assumption | exact ⟨by omega, by omega⟩) (by first | exact r _ _ | assumption | exact ⟨by omega, by omega⟩) (fun c_7 => ?_) (fun c_7 => ?_)
      ·
        refine V_iload1 G dX7_errorAt_35 ?_
        exact V_reti E dX7_errorAt_36 rfl rfl ⟨_, rfl, ⟨by rw [← hs, erF, if_neg (by omega)], rfl⟩⟩
      ·
        refine V_iload1 G dX7_errorAt_10 ?_
        refine V_bipush G dX7_errorAt_11 (by decide) ?_
        refine V_icmpge G dX7_errorAt_13 (tgt := 35) (by decide) (by first | exact r _ _ | assumption | exact ⟨by omega, by omega⟩) (by first | exact r _ _ | assumption | exact ⟨by omega, by omega⟩) (fun c_13 => ?_) (fun c_13 => ?_)
        · omega
        ·
          refine V_aload0 G dX7_errorAt_16 ?_
          refine V_getR G fl_X7_23 dX7_errorAt_17 (by first | decide | assumption) (by first | rfl | assumption) rfl (by first | rfl | assumption) ?_
          refine V_iload1 G dX7_errorAt_20 ?_
          refine V_ialde G dX7_errorAt_21 (by first | decide | assumption) (by first | rfl | assumption) (by decide) ⟨by omega, by omega⟩ (by first | (simp only [hI_sI, hI_sL, hL_sI, hL_sL, false_and, true_and, and_false, and_true, and_self, if_false, if_true, hbl]; first | done | rfl) | rfl) ?_
          refine V_cS1i (d1 := 2) G m_X7_217 dX7_errorAt_22 (c_X7_kindOf (r 82 k)) (by omega) (by omega) (by omega) (Nat.le_of_ble_eq_true rfl) (fun x_22 h_22 hp_22 => ?_)
          rw [hp_22.1, hp_22.2, R.bf k0 (by omega)]
          have hkr := knF_r (bfA g.2.2.2.2 k)
          refine V_iconst G dX7_errorAt_25 ?_
          refine V_icmpeq G dX7_errorAt_26 (tgt := 35) (by decide) (by first | exact r _ _ | assumption | exact ⟨by omega, by omega⟩) (by first | exact r _ _ | assumption | exact ⟨by omega, by omega⟩) (fun c_26 => ?_) (fun c_26 => ?_)
          ·
            refine V_iload1 G dX7_errorAt_35 ?_
            exact V_reti E dX7_errorAt_36 rfl rfl ⟨_, rfl, ⟨by rw [← hs, erF, if_neg (by omega)], rfl⟩⟩
          ·
            refine V_iinc1 G dX7_errorAt_29 rfl ?_
            refine V_goto G dX7_errorAt_32 (tgt := 2) (by decide) ?_
            exact ih (k + 1) (by omega) (by omega) (by omega) (by rw [← hs, erF, if_pos ⟨by omega, by omega, c_26⟩])
  refine V_iconst G dX7_errorAt_0 ?_
  refine V_istore1 G dX7_errorAt_1 rfl ?_
  exact lp 12 0 (by omega) (by omega) (by omega) rfl


def opFE (g : Sg) : Rs := (0, erS g.2.2.2.2, g)
def loadC (c : Cs) (bf : List Int) : Cs := fun j => if j = 0 then bf.length else if 2 ≤ j ∧ j < 14 then (if j - 2 < bf.length then knF (bfA bf (j - 2)) else 0) else c j
noncomputable def opLoad (g : Sg) : Rs :=
  if g.2.2.2.2.length = 0 ∨ erS g.2.2.2.2 < g.2.2.2.2.length then (1, 0, g) else
  (0, (AS (begS (loadC g.1 g.2.2.2.2))).length, (begS (loadC g.1 g.2.2.2.2), savL g.2.1 g.1, g.2.2.1, g.2.2.2.1, []))

set_option maxRecDepth 100000 in
set_option maxHeartbeats 4000000 in
theorem c_X7_firstError {l : Launch} {d : Nat} {h : Hp} (r : Rg h) {g : Sg} (R : RepM g h) (hb20 : g.2.2.2.2.length ≤ 20) (hd : 4 ≤ d := by omega) : CP l d 0 0 yX7_firstError cX7_firstError 1 (Option.some Jvm.ClassFile.FieldType.int) [.ref 77] h (pI fun x h1 => aft (opFE g) x h h1) := by
  refine CP.ofV (L := [some (.ref 77)]) RX7 (by decide +kernel) rfl (Nat.le_of_ble_eq_true rfl) rfl (fun X hX G E => ?_)
  subst hX
  have r0 : Rg (sI h 77 0 0) := r.sI ⟨by decide, by decide⟩
  have R0 : RepM g (sI h 77 0 0) := R.thr
  have e0 : eqx SM h (sI h 77 0 0) := eqx.rf.st rfl
  refine V_aload0 G dX7_firstError_0 ?_
  refine V_iconst G dX7_firstError_1 ?_
  refine V_putI (jz := 0) G fw_X7_68 dX7_firstError_2 (by first | decide | assumption) (by first | rfl | assumption) rfl rfl ?_
  refine V_aload0 G dX7_firstError_5 ?_
  refine V_cV0i (d1 := 3) G m_X7_220 dX7_firstError_6 (by first | decide | assumption) (by first | rfl | assumption) (c_X7_errorAt r0 R0 hb20) (by omega) (by omega) (by omega) (Nat.le_of_ble_eq_true rfl) (fun x_6 h_6 hp_6 => ?_)
  rw [hp_6.1, hp_6.2]
  exact V_reti E dX7_firstError_9 rfl rfl ⟨_, rfl, ⟨e0, r0, by simp [hI_sI, opFE], R0, fun _ => rfl⟩⟩

set_option maxRecDepth 100000 in
set_option maxHeartbeats 4000000 in
theorem c_X7_load {l : Launch} {d : Nat} {h : Hp} (r : Rg h) {g : Sg} (T : RdsOk) (R : RepM g h) (I : okS g.1) (hl6 : g.2.1.length ≤ 6) (hb20 : g.2.2.2.2.length ≤ 20) (hd : 8 ≤ d := by omega) : CP l d 0 0 yX7_load cX7_load 2 (Option.some Jvm.ClassFile.FieldType.int) [.ref 77] h (pI fun x h1 => aft (opLoad g) x h h1) := by
  refine CP.ofV (L := [some (.ref 77), none]) RX7 (by decide +kernel) rfl (Nat.le_of_ble_eq_true rfl) rfl (fun X hX G E => ?_)
  subst hX
  have r0 : Rg (sI h 77 0 0) := r.sI ⟨by decide, by decide⟩
  have R0 : RepM g (sI h 77 0 0) := R.thr
  have e0 : eqx SM h (sI h 77 0 0) := eqx.rf.st rfl
  have hn := R0.n
  have hn0 := I.1
  have hbl := R0.2.2.2.2.2.1
  have her := erF_r (bfA g.2.2.2.2) g.2.2.2.2.length 12 0 (by omega) (by omega) (by omega)
  have her2 : erF (bfA g.2.2.2.2) g.2.2.2.2.length 12 0 = erS g.2.2.2.2 := rfl
  rw [her2] at her
  have lp : ∀ (hs : Hp), eqx SM h hs → RepM (g.1, savL g.2.1 g.1, g.2.2) hs → hI hs 77 0 = 0 → ¬ (g.2.2.2.2.length = 0 ∨ erS g.2.2.2.2 < g.2.2.2.2.length) → Rg hs → V X 0 0 45 [some (.ref 77), some (.int (Int32.ofInt 0))] [] (sI hs 78 0 g.2.2.2.2.length) := by
    intro hs es Rs hs0 hcond rs
    have hsl : hI hs 77 7 = g.2.2.2.2.length := Rs.2.2.2.2.2.1
    have hall := erF_all (bfA g.2.2.2.2) g.2.2.2.2.length 12 0 (by omega) (by omega)
    have lp2 : ∀ (m : Nat) (k : Int) (f : Hp), k + m = 12 → 0 ≤ k → Rg f → eqx (fun q _ => q == 78) hs f → (∀ j : Int, 0 ≤ j → j < 26 → hI f 78 j = if j = 0 then (g.2.2.2.2.length : Int) else if 2 ≤ j ∧ j < 2 + k then (if j - 2 < g.2.2.2.2.length then knF (bfA g.2.2.2.2 (j - 2)) else 0) else g.1 j) → V X 0 0 45 [some (.ref 77), some (.int (Int32.ofInt k))] [] f := by
      intro m
      induction m with
      | zero =>
        intro k f hm_ hk0 r2 ef hf
        have r := r2
        have hf7 : hI f 77 7 = g.2.2.2.2.length := (ef.1 77 7 rfl).trans hsl
        refine V_iload1 G dX7_load_45 ?_
        refine V_bipush G dX7_load_46 (by decide) ?_
        refine V_icmpge G dX7_load_48 (tgt := 86) (by decide) (by first | exact r _ _ | assumption | exact ⟨by omega, by omega⟩) (by first | exact r _ _ | assumption | exact ⟨by omega, by omega⟩) (fun c_48 => ?_) (fun c_48 => ?_)
        ·
          refine V_aload0 G dX7_load_86 ?_
          refine V_iconst G dX7_load_87 ?_
          refine V_putI (jz := 7) G fw_X7_211 dX7_load_88 (by first | decide | assumption) (by first | rfl | assumption) rfl rfl ?_
          refine V_aload0 G dX7_load_91 ?_
          have R8 := Rs.cur ef (c := loadC g.1 g.2.2.2.2) (fun j j1 j2 => by
            rw [hf j j1 j2, show (2 : Int) + k = 14 by omega]
            rfl)
          have R9 : RepM (loadC g.1 g.2.2.2.2, savL g.2.1 g.1, g.2.2.1, g.2.2.2.1, []) (sI f 77 7 0) := by
            obtain ⟨q1, q2, q3, q4, q5, q6, q7⟩ := R8
            exact ⟨q1, q2, q3, q4, q5, by simp [hI_sI], fun i z hz => by simp at hz⟩
          refine V_cV0i (d1 := 7) G m_X7_196 dX7_load_92 (by first | decide | assumption) (by first | rfl | assumption) (c_X7_begins (g := (loadC g.1 g.2.2.2.2, savL g.2.1 g.1, g.2.2.1, g.2.2.2.1, [])) (r2.sI ⟨by decide, by decide⟩) T R9 (by show 0 ≤ (g.2.2.2.2.length : Int) ∧ (g.2.2.2.2.length : Int) ≤ 12; omega) (fun j j1 j2 => by
              have j2 : j < (g.2.2.2.2.length : Int) := j2
              show 0 ≤ loadC g.1 g.2.2.2.2 (2 + j) ∧ loadC g.1 g.2.2.2.2 (2 + j) ≤ 6
              unfold loadC
              rw [if_neg (by omega), if_pos (by omega), if_pos (by omega), show 2 + j - 2 = j by omega]
              have := knF_r (bfA g.2.2.2.2 j)
              have := hall j j1 j2
              omega)) (by omega) (by omega) (by omega) (Nat.le_of_ble_eq_true rfl) (fun x_92 h_92 hp_92 => ?_)
          obtain ⟨y1, y2, y3, y4, y5⟩ := hp_92
          exact V_reti E dX7_load_95 rfl rfl ⟨_, rfl, by
              unfold opLoad
              rw [if_neg hcond]
              exact ⟨es.tr (((S78_SM ef).st rfl).tr y1), y2, (y5.trans (by rw [hI_sI, if_neg (by omega)]; exact ef.1 77 0 rfl)).trans hs0, y4, fun _ => y3⟩⟩
        · omega
      | succ m ih =>
        intro k f hm_ hk0 r2 ef hf
        have r := r2
        have hf7 : hI f 77 7 = g.2.2.2.2.length := (ef.1 77 7 rfl).trans hsl
        refine V_iload1 G dX7_load_45 ?_
        refine V_bipush G dX7_load_46 (by decide) ?_
        refine V_icmpge G dX7_load_48 (tgt := 86) (by decide) (by first | exact r _ _ | assumption | exact ⟨by omega, by omega⟩) (by first | exact r _ _ | assumption | exact ⟨by omega, by omega⟩) (fun c_48 => ?_) (fun c_48 => ?_)
        · omega
        ·
          refine V_aload0 G dX7_load_51 ?_
          refine V_getR G fl_X7_7 dX7_load_52 (by first | decide | assumption) (by first | rfl | assumption) rfl (by first | rfl | assumption) ?_
          refine V_iconst G dX7_load_55 ?_
          refine V_iload1 G dX7_load_56 ?_
          refine V_iadd G dX7_load_57 ?_
          refine V_iload1 G dX7_load_58 ?_
          refine V_aload0 G dX7_load_59 ?_
          refine V_getIe (jz := 7) G fl_X7_211 dX7_load_60 (by first | decide | assumption) (by first | rfl | assumption) rfl rfl (by first | (simp only [hI_sI, hI_sL, hL_sI, hL_sL, false_and, true_and, and_false, and_true, and_self, if_false, if_true, hf7]; first | done | rfl) | rfl) ?_
          refine V_icmpge G dX7_load_63 (tgt := 78) (by decide) (by first | exact r _ _ | assumption | exact ⟨by omega, by omega⟩) (by first | exact r _ _ | assumption | exact ⟨by omega, by omega⟩) (fun c_63 => ?_) (fun c_63 => ?_)
          ·
            refine V_iconst G dX7_load_78 ?_
            refine V_iast G dX7_load_79 (by first | decide | assumption) (by first | rfl | assumption) (by decide) ⟨by omega, by omega⟩ ?_
            refine V_iinc1 G dX7_load_80 rfl ?_
            refine V_goto G dX7_load_83 (tgt := 45) (by decide) ?_
            first
            | (have hlt : k < (g.2.2.2.2.length : Int) := by omega
               exact ih (k + 1) _ (by omega) (by omega) (r2.sI ⟨by have := knF_r (bfA g.2.2.2.2 k); omega, by have := knF_r (bfA g.2.2.2.2 k); omega⟩) (ef.st rfl) (fun j j1 j2 => by
                   rw [hI_sI]
                   by_cases hj : j = 2 + k
                   · subst hj
                     rw [if_pos ⟨rfl, rfl⟩, if_neg (show ¬ 2 + k = 0 by omega), if_pos (show 2 ≤ 2 + k ∧ 2 + k < 2 + (k + 1) by omega), if_pos (show 2 + k - 2 < (g.2.2.2.2.length : Int) by omega), show 2 + k - 2 = k by omega]
                   · rw [if_neg (fun z => hj z.2), hf j j1 j2]
                     by_cases hj2 : j = 0
                     · rw [if_pos hj2, if_pos hj2]
                     · rw [if_neg hj2, if_neg hj2]
                       by_cases hj3 : 2 ≤ j ∧ j < 2 + k
                       · rw [if_pos hj3, if_pos (show 2 ≤ j ∧ j < 2 + (k + 1) by omega)]
                       · rw [if_neg hj3, if_neg (show ¬ (2 ≤ j ∧ j < 2 + (k + 1)) by omega)]))
            | (have hge : (g.2.2.2.2.length : Int) ≤ k := by omega
               exact ih (k + 1) _ (by omega) (by omega) (r2.sI ⟨by omega, by omega⟩) (ef.st rfl) (fun j j1 j2 => by
                   rw [hI_sI]
                   by_cases hj : j = 2 + k
                   · subst hj
                     rw [if_pos ⟨rfl, rfl⟩, if_neg (show ¬ 2 + k = 0 by omega), if_pos (show 2 ≤ 2 + k ∧ 2 + k < 2 + (k + 1) by omega), if_neg (show ¬ 2 + k - 2 < (g.2.2.2.2.length : Int) by omega)]
                   · rw [if_neg (fun z => hj z.2), hf j j1 j2]
                     by_cases hj2 : j = 0
                     · rw [if_pos hj2, if_pos hj2]
                     · rw [if_neg hj2, if_neg hj2]
                       by_cases hj3 : 2 ≤ j ∧ j < 2 + k
                       · rw [if_pos hj3, if_pos (show 2 ≤ j ∧ j < 2 + (k + 1) by omega)]
                       · rw [if_neg hj3, if_neg (show ¬ (2 ≤ j ∧ j < 2 + (k + 1)) by omega)]))
          ·
            refine V_aload0 G dX7_load_66 ?_
            refine V_getR G fl_X7_23 dX7_load_67 (by first | decide | assumption) (by first | rfl | assumption) rfl (by first | rfl | assumption) ?_
            refine V_iload1 G dX7_load_70 ?_
            refine V_ialde G dX7_load_71 (by first | decide | assumption) (by first | rfl | assumption) (by decide) ⟨by omega, by omega⟩ (by first | (simp only [hI_sI, hI_sL, hL_sI, hL_sL, false_and, true_and, and_false, and_true, and_self, if_false, if_true, hf7]; first | done | rfl) | rfl) ?_
            refine V_cS1i (d1 := 2) G m_X7_217 dX7_load_72 (c_X7_kindOf (r2 82 k)) (by omega) (by omega) (by omega) (Nat.le_of_ble_eq_true rfl) (fun x_72 h_72 hp_72 => ?_)
            rw [hp_72.1, hp_72.2, show hI f 82 k = bfA g.2.2.2.2 k from (ef.1 82 k rfl).trans (Rs.bf hk0 (show k < ((g.2.2.2.2).length : Int) by omega))]
            refine V_goto G dX7_load_75 (tgt := 79) (by decide) ?_
            refine V_iast G dX7_load_79 (by first | decide | assumption) (by first | rfl | assumption) (by decide) ⟨by omega, by omega⟩ ?_
            refine V_iinc1 G dX7_load_80 rfl ?_
            refine V_goto G dX7_load_83 (tgt := 45) (by decide) ?_
            first
            | (have hlt : k < (g.2.2.2.2.length : Int) := by omega
               exact ih (k + 1) _ (by omega) (by omega) (r2.sI ⟨by have := knF_r (bfA g.2.2.2.2 k); omega, by have := knF_r (bfA g.2.2.2.2 k); omega⟩) (ef.st rfl) (fun j j1 j2 => by
                   rw [hI_sI]
                   by_cases hj : j = 2 + k
                   · subst hj
                     rw [if_pos ⟨rfl, rfl⟩, if_neg (show ¬ 2 + k = 0 by omega), if_pos (show 2 ≤ 2 + k ∧ 2 + k < 2 + (k + 1) by omega), if_pos (show 2 + k - 2 < (g.2.2.2.2.length : Int) by omega), show 2 + k - 2 = k by omega]
                   · rw [if_neg (fun z => hj z.2), hf j j1 j2]
                     by_cases hj2 : j = 0
                     · rw [if_pos hj2, if_pos hj2]
                     · rw [if_neg hj2, if_neg hj2]
                       by_cases hj3 : 2 ≤ j ∧ j < 2 + k
                       · rw [if_pos hj3, if_pos (show 2 ≤ j ∧ j < 2 + (k + 1) by omega)]
                       · rw [if_neg hj3, if_neg (show ¬ (2 ≤ j ∧ j < 2 + (k + 1)) by omega)]))
            | (have hge : (g.2.2.2.2.length : Int) ≤ k := by omega
               exact ih (k + 1) _ (by omega) (by omega) (r2.sI ⟨by omega, by omega⟩) (ef.st rfl) (fun j j1 j2 => by
                   rw [hI_sI]
                   by_cases hj : j = 2 + k
                   · subst hj
                     rw [if_pos ⟨rfl, rfl⟩, if_neg (show ¬ 2 + k = 0 by omega), if_pos (show 2 ≤ 2 + k ∧ 2 + k < 2 + (k + 1) by omega), if_neg (show ¬ 2 + k - 2 < (g.2.2.2.2.length : Int) by omega)]
                   · rw [if_neg (fun z => hj z.2), hf j j1 j2]
                     by_cases hj2 : j = 0
                     · rw [if_pos hj2, if_pos hj2]
                     · rw [if_neg hj2, if_neg hj2]
                       by_cases hj3 : 2 ≤ j ∧ j < 2 + k
                       · rw [if_pos hj3, if_pos (show 2 ≤ j ∧ j < 2 + (k + 1) by omega)]
                       · rw [if_neg hj3, if_neg (show ¬ (2 ≤ j ∧ j < 2 + (k + 1)) by omega)]))

    exact lp2 12 0 _ (by omega) (by omega) (rs.sI ⟨by omega, by omega⟩) (eqx.rf.st rfl) (fun j j1 j2 => by
      rw [hI_sI]
      by_cases q1 : j = 0
      · rw [if_pos ⟨rfl, q1⟩, if_pos q1]
      · rw [if_neg (fun z => q1 z.2), if_neg q1, if_neg (by omega)]
        exact Rs.at' j1 j2)
  refine V_aload0 G dX7_load_0 ?_
  refine V_iconst G dX7_load_1 ?_
  refine V_putI (jz := 0) G fw_X7_68 dX7_load_2 (by first | decide | assumption) (by first | rfl | assumption) rfl rfl ?_
  refine V_aload0 G dX7_load_5 ?_
  refine V_getIe (jz := 7) G fl_X7_211 dX7_load_6 (by first | decide | assumption) (by first | rfl | assumption) rfl rfl (by first | (simp only [hI_sI, hI_sL, hL_sI, hL_sL, false_and, true_and, and_false, and_true, and_self, if_false, if_true, hbl]; first | done | rfl) | rfl) ?_
  refine V_ifeq G dX7_load_9 (tgt := 23) (by decide) (by first | exact r _ _ | assumption | exact ⟨by omega, by omega⟩) (fun c_9 => ?_) (fun c_9 => ?_)
  ·
    refine V_aload0 G dX7_load_23 ?_
    refine V_iconst G dX7_load_24 ?_
    refine V_cV1i (d1 := 1) G m_X7_190 dX7_load_25 (by first | decide | assumption) (by first | rfl | assumption) (c_X7_fails) (by omega) (by omega) (by omega) (Nat.le_of_ble_eq_true rfl) (fun x_25 h_25 hp_25 => ?_)
    rw [hp_25.1, hp_25.2]
    exact V_reti E dX7_load_28 rfl rfl ⟨_, rfl, by unfold opLoad; rw [if_pos (by omega)]; exact aft_fail e0 r0 R0 (by decide) ⟨by decide, by decide⟩⟩
  ·
    refine V_aload0 G dX7_load_12 ?_
    refine V_cV0i (d1 := 3) G m_X7_220 dX7_load_13 (by first | decide | assumption) (by first | rfl | assumption) (c_X7_errorAt r0 R0 hb20) (by omega) (by omega) (by omega) (Nat.le_of_ble_eq_true rfl) (fun x_13 h_13 hp_13 => ?_)
    rw [hp_13.1, hp_13.2]
    refine V_aload0 G dX7_load_16 ?_
    refine V_getIe (jz := 7) G fl_X7_211 dX7_load_17 (by first | decide | assumption) (by first | rfl | assumption) rfl rfl (by first | (simp only [hI_sI, hI_sL, hL_sI, hL_sL, false_and, true_and, and_false, and_true, and_self, if_false, if_true, hbl]; first | done | rfl) | rfl) ?_
    refine V_icmpge G dX7_load_20 (tgt := 29) (by decide) (by first | exact r _ _ | assumption | exact ⟨by omega, by omega⟩) (by first | exact r _ _ | assumption | exact ⟨by omega, by omega⟩) (fun c_20 => ?_) (fun c_20 => ?_)
    ·
      refine V_aload0 G dX7_load_29 ?_
      refine V_cV0v (d1 := 1) G m_X7_193 dX7_load_30 (by first | decide | assumption) (by first | rfl | assumption) (c_X7_saves r0 R0 hl6) (by omega) (by omega) (by omega) (Nat.le_of_ble_eq_true rfl) (fun h_30 hp_30 => ?_)
      obtain ⟨z1, z2, z3⟩ := hp_30
      have hn9 := z3.n
      dsimp only at hn9
      have r := z2
      have z77 : hI h_30 77 0 = 0 := (z1.1 77 0 rfl).trans (by simp [hI_sI])
      refine V_aload0 G dX7_load_33 ?_
      refine V_getR G fl_X7_7 dX7_load_34 (by first | decide | assumption) (by first | rfl | assumption) rfl (by first | rfl | assumption) ?_
      refine V_iconst G dX7_load_37 ?_
      refine V_aload0 G dX7_load_38 ?_
      refine V_getIe (jz := 7) G fl_X7_211 dX7_load_39 (by first | decide | assumption) (by first | rfl | assumption) rfl rfl z3.2.2.2.2.2.1 ?_
      refine V_iast G dX7_load_42 (by first | decide | assumption) (by first | rfl | assumption) (by decide) ⟨by omega, by omega⟩ ?_
      refine V_iconst G dX7_load_43 ?_
      refine V_istore1 G dX7_load_44 rfl ?_
      exact lp h_30 (e0.tr (S79_SM z1)) z3 z77 (by omega) z2
    ·
      refine V_aload0 G dX7_load_23 ?_
      refine V_iconst G dX7_load_24 ?_
      refine V_cV1i (d1 := 1) G m_X7_190 dX7_load_25 (by first | decide | assumption) (by first | rfl | assumption) (c_X7_fails) (by omega) (by omega) (by omega) (Nat.le_of_ble_eq_true rfl) (fun x_25 h_25 hp_25 => ?_)
      rw [hp_25.1, hp_25.2]
      exact V_reti E dX7_load_28 rfl rfl ⟨_, rfl, by unfold opLoad; rw [if_pos (by omega)]; exact aft_fail e0 r0 R0 (by decide) ⟨by decide, by decide⟩⟩

end M14
