section M18

noncomputable def hvS (c : Cs) (w hd1 : Int) : Int := sumF (fun i => if rowA (AS c) (lfA (lfS c) i) w = hd1 then 1 else 0) (lfS c).length 0
noncomputable def hdsS (c : Cs) (w : Int) : Int := sumF (fun hd1 => if 0 < hvS c w hd1 then 1 else 0) (nS c + 1).toNat (-1)
noncomputable def mosS (c : Cs) (w : Int) : Int := mxF (fun hd1 => hvS c w hd1) (nS c + 1).toNat (-1) 0
theorem hvS_r {c : Cs} (w hd1 : Int) : 0 ≤ hvS c w hd1 ∧ hvS c w hd1 ≤ (lfS c).length := by
  have := sumF_le (f := fun i => if rowA (AS c) (lfA (lfS c) i) w = hd1 then 1 else 0) (b := 1) (by omega) (lfS c).length 0 (fun j => by split <;> omega)
  unfold hvS
  omega
theorem hdsS_r {c : Cs} (w : Int) (hn : nS c ≤ 12) : 0 ≤ hdsS c w ∧ hdsS c w ≤ 13 := by
  have := sumF_le (f := fun hd1 => if 0 < hvS c w hd1 then 1 else 0) (b := 1) (by omega) (nS c + 1).toNat (-1) (fun j => by split <;> omega)
  unfold hdsS
  omega
theorem mosS_r {c : Cs} (w : Int) : 0 ≤ mosS c w ∧ mosS c w ≤ (lfS c).length := mxF_r _ _ _ (fun j _ _ => hvS_r w j) (by omega)
/-- headsOf over the abstract state -/
theorem c_heads {l : Launch} {d : Nat} {h : Hp} (r : Rg h) {g : Sg} (T : RdsOk) (R : RepM g h) (I : okS g.1) (L : LaidM g.1 h) {w ms : Int} (hw : 0 ≤ w ∧ w < nS g.1) (hm : ms = 0 ∨ ms = 1) (hd : 3 ≤ d := by omega) : CP l d 0 0 yX7_headsOf cX7_headsOf 7 (Option.some Jvm.ClassFile.FieldType.int) [.ref 77, iv w, iv ms] h (pI fun x h1 => x = (if ms = 0 then hdsS g.1 w else mosS g.1 w) ∧ h1 = h) := by
  have := AS_le T I
  have := I.1
  obtain ⟨w1, w2, w3⟩ := lfS_at T I L
  refine (c_X7_headsOf r R.n I.1 w2 (by omega) (fun i i1 i2 => by rw [(w3 i i1 i2).1]; have := (w3 i i1 i2).2; omega) (by omega) hm (by omega)).mono ?_
  rintro rr q ⟨x, q1, q2, q3⟩
  refine ⟨x, q1, q2.trans ?_, q3⟩
  have e : ∀ hd1, sumF (fun i => if hI h 89 (12 * hI h 90 i + w) = hd1 then 1 else 0) ((lfS g.1).length : Int).toNat 0 = hvS g.1 w hd1 := fun hd1 => by
    unfold hvS
    rw [Int.toNat_natCast]
    refine sumF_congr _ _ (fun k k1 k2 => ?_)
    obtain ⟨u1, u2, u3⟩ := w3 k k1 (by omega)
    rw [u1, (laid_row T R I L u2 u3).1 w hw.1 hw.2]
  simp only [e]
  rfl
def cntK (c : Cs) (kd : Int) : Int := sumF (fun k => if kdS c k = kd then 1 else 0) (nS c).toNat 0
def hldF (n : Int) (f : Int → Int) (w : Int) : Int := sumF (fun k => if f k = w then 1 else 0) n.toNat 0
theorem hldF_congr {n : Int} {f f' : Int → Int} (hf : ∀ w, 0 ≤ w → w < n → f w = f' w) (w : Int) : hldF n f w = hldF n f' w := sumF_congr _ _ (fun k k1 k2 => by rw [hf k k1 (by omega)])
theorem hldF_r (n : Int) (f : Int → Int) (w : Int) : 0 ≤ hldF n f w ∧ hldF n f w ≤ n.toNat := by
  have := sumF_le (f := fun k => if f k = w then 1 else 0) (b := 1) (by omega) n.toNat 0 (fun j => by split <;> omega)
  unfold hldF
  omega
def tdF (n : Int) (kd f : Int → Int) (w what : Int) : Int := if what = 1 then f w else if what = 2 then heldF kd f w else if what = 3 then levF kd f 12 w + 20 else if what = 4 then hldF n f w else w
noncomputable def drS (c : Cs) : Int := lfA (lfS c) (c 1)
noncomputable def wordS (c : Cs) (w what : Int) : Int :=
  if what = 0 then kdS c w else if what = 6 then (if 0 < fxS c w then 1 else 0) else if what = 7 then hdsS c w else if (lfS c).length = 0 then -1 else tdF (nS c) (kdS c) (rowA (AS c) (drS c)) w what
noncomputable def opWord (g : Sg) (w what : Int) : Rs := if ¬ (0 ≤ w ∧ w < nS g.1) then (1, 0, g) else if ¬ (0 ≤ what ∧ what ≤ 7) then (2, 0, g) else (0, wordS g.1 w what, g)
noncomputable def readS (c : Cs) (p what : Int) : Int :=
  if what = 0 then hgtS c (lfA (lfS c) p) else if what = 1 then cntK c 1 else if what = 2 then cntK c 2 + cntK c 3 + cntK c 4 else if what = 3 then cntK c 5 else if what = 4 then mxF (hldF (nS c) (rowA (AS c) (lfA (lfS c) p))) (nS c).toNat 0 0 else lfA (lfS c) p
noncomputable def opRead (g : Sg) (p what : Int) : Rs := if ¬ (0 ≤ p ∧ p < (lfS g.1).length) then (1, 0, g) else if ¬ (0 ≤ what ∧ what ≤ 5) then (2, 0, g) else (0, readS g.1 p what, g)
def askF (hd mo : Int → Int) : Nat → Int → Int → Int → Int
  | 0, _, b, _ => b
  | m + 1, k, b, f => if 1 < hd k ∧ (b = -1 ∨ mo k < f) then askF hd mo m (k + 1) k (mo k) else askF hd mo m (k + 1) b f
noncomputable def askS (c : Cs) : Int := askF (hdsS c) (mosS c) (nS c).toNat 0 (-1) 0
noncomputable def opAsk (g : Sg) : Rs := (0, askS g.1, g)

set_option maxRecDepth 100000 in
set_option maxHeartbeats 4000000 in
theorem c_X7_tellsDrawn {l : Launch} {d : Nat} {h : Hp} (r : Rg h) {g : Sg} (T : RdsOk) (R : RepM g h) (I : okS g.1) (L : LaidM g.1 h) {i w q : Int} (h1 : 0 ≤ i) (h2 : i < (AS g.1).length) (hw : 0 ≤ w ∧ w < nS g.1) (hq : 0 ≤ q ∧ q ≤ 7) (hd : 5 ≤ d := by omega) : CP l d 0 0 yX7_tellsDrawn cX7_tellsDrawn 4 (Option.some Jvm.ClassFile.FieldType.int) [.ref 77, iv i, iv w, iv q] h (pI fun x h1 => x = tdF (nS g.1) (kdS g.1) (rowA (AS g.1) i) w q ∧ h1 = h) := by
  refine CP.ofV (L := [some (.ref 77), some (.int (Int32.ofInt i)), some (.int (Int32.ofInt w)), some (.int (Int32.ofInt q))]) RX7 (by decide +kernel) rfl (Nat.le_of_ble_eq_true rfl) rfl (fun X hX G E => ?_)
  subst hX
  obtain ⟨e1, e2, e3, e4, e5⟩ := laid_row T R I L h1 h2
  have := AS_le T I
  have hn := R.n
  have hn0 := I.1
  have hk : ∀ w, 0 ≤ w → w < nS g.1 → 0 ≤ hI h 78 (2 + w) ∧ hI h 78 (2 + w) ≤ 6 := fun w w1 w2 => by rw [R.kd I w w1 w2]; exact I.2.1 w w1 w2
  refine V_iload3 G dX7_tellsDrawn_0 ?_
  rcases (show q = 1 ∨ q = 2 ∨ q = 3 ∨ q = 4 ∨ (q < 1 ∨ 4 < q) by omega) with e_1 | e_1 | e_1 | e_1 | e_1
  · rw [e_1]
    refine V_tableIn G dX7_tellsDrawn_1 (tgt := 32) ⟨by decide, by decide⟩ (by decide) (by decide) rfl (by decide) ?_
    refine V_aload0 G dX7_tellsDrawn_32 ?_
    refine V_iload1 G dX7_tellsDrawn_33 ?_
    refine V_iload2 G dX7_tellsDrawn_34 ?_
    refine V_cV2i (d1 := 1) G m_X7_148 dX7_tellsDrawn_35 (by first | decide | assumption) (by first | rfl | assumption) (c_X7_head (by omega) (by omega)) (by omega) (by omega) (by omega) (Nat.le_of_ble_eq_true rfl) (fun x_35 h_35 hp_35 => ?_)
    rw [hp_35.1, hp_35.2]
    exact V_reti E dX7_tellsDrawn_38 rfl rfl ⟨_, rfl, ⟨by unfold tdF; rw [if_pos e_1]; exact e1 w hw.1 hw.2, rfl⟩⟩
  · rw [e_1]
    refine V_tableIn G dX7_tellsDrawn_1 (tgt := 39) ⟨by decide, by decide⟩ (by decide) (by decide) rfl (by decide) ?_
    refine V_aload0 G dX7_tellsDrawn_39 ?_
    refine V_iload1 G dX7_tellsDrawn_40 ?_
    refine V_iload2 G dX7_tellsDrawn_41 ?_
    refine V_cV2i (d1 := 2) G m_X7_152 dX7_tellsDrawn_42 (by first | decide | assumption) (by first | rfl | assumption) (c_X7_heldBy r hn hn0 hk (by omega) e4 hw) (by omega) (by omega) (by omega) (Nat.le_of_ble_eq_true rfl) (fun x_42 h_42 hp_42 => ?_)
    rw [hp_42.1, hp_42.2]
    exact V_reti E dX7_tellsDrawn_45 rfl rfl ⟨_, rfl, ⟨by unfold tdF; rw [if_neg (by omega), if_pos e_1]; exact heldF_congr (R.kd I) e1 e4 hw.1 hw.2, rfl⟩⟩
  · rw [e_1]
    refine V_tableIn G dX7_tellsDrawn_1 (tgt := 46) ⟨by decide, by decide⟩ (by decide) (by decide) rfl (by decide) ?_
    refine V_aload0 G dX7_tellsDrawn_46 ?_
    refine V_iload1 G dX7_tellsDrawn_47 ?_
    refine V_iload2 G dX7_tellsDrawn_48 ?_
    refine V_cV2i (d1 := 4) G m_X7_158 dX7_tellsDrawn_49 (by first | decide | assumption) (by first | rfl | assumption) (c_X7_level r hn hn0 hk (by omega) e4 e5 hw) (by omega) (by omega) (by omega) (Nat.le_of_ble_eq_true rfl) (fun x_49 h_49 hp_49 => ?_)
    rw [hp_49.1, hp_49.2]
    refine V_bipush G dX7_tellsDrawn_52 (by decide) ?_
    refine V_iadd G dX7_tellsDrawn_54 ?_
    exact V_reti E dX7_tellsDrawn_55 rfl rfl ⟨_, rfl, ⟨by unfold tdF; rw [if_neg (by omega), if_neg (by omega), if_pos e_1, levF_congr (R.kd I) e1 e4 12 w hw.1 hw.2], rfl⟩⟩
  · rw [e_1]
    refine V_tableIn G dX7_tellsDrawn_1 (tgt := 56) ⟨by decide, by decide⟩ (by decide) (by decide) rfl (by decide) ?_
    refine V_aload0 G dX7_tellsDrawn_56 ?_
    refine V_iload1 G dX7_tellsDrawn_57 ?_
    refine V_iload2 G dX7_tellsDrawn_58 ?_
    refine V_cV2i (d1 := 2) G m_X7_237 dX7_tellsDrawn_59 (by first | decide | assumption) (by first | rfl | assumption) (c_X7_holds r hn hn0 (by omega) ⟨by omega, by omega⟩) (by omega) (by omega) (by omega) (Nat.le_of_ble_eq_true rfl) (fun x_59 h_59 hp_59 => ?_)
    rw [hp_59.1, hp_59.2]
    exact V_reti E dX7_tellsDrawn_62 rfl rfl ⟨_, rfl, ⟨by unfold tdF; rw [if_neg (by omega), if_neg (by omega), if_neg (by omega), if_pos e_1]; exact hldF_congr e1 w, rfl⟩⟩
  ·
    refine V_tableOut G dX7_tellsDrawn_1 (tgt := 63) ⟨by omega, by omega⟩ (by omega) (by decide) ?_
    refine V_iload2 G dX7_tellsDrawn_63 ?_
    exact V_reti E dX7_tellsDrawn_64 rfl rfl ⟨_, rfl, ⟨by unfold tdF; rw [if_neg (by omega), if_neg (by omega), if_neg (by omega), if_neg (by omega)], rfl⟩⟩

set_option maxRecDepth 100000 in
set_option maxHeartbeats 4000000 in
theorem c_X7_tellsWord {l : Launch} {d : Nat} {h : Hp} (r : Rg h) {g : Sg} (T : RdsOk) (R : RepM g h) (I : okS g.1) (L : LaidM g.1 h) {w q : Int} (hw : 0 ≤ w ∧ w < nS g.1) (hq : 0 ≤ q ∧ q ≤ 7) (hd : 6 ≤ d := by omega) : CP l d 0 0 yX7_tellsWord cX7_tellsWord 4 (Option.some Jvm.ClassFile.FieldType.int) [.ref 77, iv w, iv q] h (pI fun x h1 => x = wordS g.1 w q ∧ h1 = h) := by
  refine CP.ofV (L := [some (.ref 77), some (.int (Int32.ofInt w)), some (.int (Int32.ofInt q)), none]) RX7 (by decide +kernel) rfl (Nat.le_of_ble_eq_true rfl) rfl (fun X hX G E => ?_)
  subst hX
  have hA := AS_le T I
  have hn0 := I.1
  obtain ⟨w1, w2, w3⟩ := lfS_at T I L
  have hd1 : hI h 78 1 = g.1 1 := R.at' (by omega) (by omega)
  have hfx := R.fx w hw.1 (by omega)
  have hdr := I.2.2.2.1
  have hcond : ((lfS g.1).length : Int) ≠ 0 → 0 ≤ drS g.1 ∧ drS g.1 < (AS g.1).length ∧ hI h 90 (g.1 1) = drS g.1 := fun z => by
    have := w3 (g.1 1) hdr.1 (by omega)
    exact ⟨this.2.1, this.2.2, this.1⟩
  refine V_aload0 G dX7_tellsWord_0 ?_
  refine V_cV0i (d1 := 1) G m_X7_226 dX7_tellsWord_1 (by first | decide | assumption) (by first | rfl | assumption) (c_X7_drawn r (lm := (lfS g.1).length) w2 (by omega) (by omega)) (by omega) (by omega) (by omega) (Nat.le_of_ble_eq_true rfl) (fun x_1 h_1 hp_1 => ?_)
  rw [hp_1.1, hp_1.2, hd1]
  have hx9 : (if ((lfS g.1).length : Int) = 0 then (-1 : Int) else hI h 90 (g.1 1)) = if ((lfS g.1).length : Int) = 0 then -1 else drS g.1 := by
    by_cases z : ((lfS g.1).length : Int) = 0
    · rw [if_pos z, if_pos z]
    · rw [if_neg z, if_neg z, (hcond z).2.2]
  rw [hx9]
  obtain ⟨dr, hdr9⟩ : ∃ dr : Int, dr = if ((lfS g.1).length : Int) = 0 then -1 else drS g.1 := ⟨_, rfl⟩
  rw [← hdr9]
  have hdrr : -1 ≤ dr ∧ dr < 100 := by
    rw [hdr9]
    split
    · omega
    · next z => have := hcond z; omega
  refine V_istore3 G dX7_tellsWord_4 rfl ?_
  refine V_iload2 G dX7_tellsWord_5 ?_
  rcases (show q = 0 ∨ q = 6 ∨ q = 7 ∨ q = 1 ∨ q = 2 ∨ q = 3 ∨ q = 4 ∨ q = 5 by omega) with e_6 | e_6 | e_6 | e_6 | e_6 | e_6 | e_6 | e_6
  · rw [e_6]
    refine V_lookup G dX7_tellsWord_6 (tgt := 40) ⟨by decide, by decide⟩ (by decide) rfl (by decide) ?_
    refine V_aload0 G dX7_tellsWord_40 ?_
    refine V_iload1 G dX7_tellsWord_41 ?_
    refine V_cV1i (d1 := 1) G m_X7_86 dX7_tellsWord_42 (by first | decide | assumption) (by first | rfl | assumption) (c_X7_kind (by omega)) (by omega) (by omega) (by omega) (Nat.le_of_ble_eq_true rfl) (fun x_42 h_42 hp_42 => ?_)
    rw [hp_42.1, hp_42.2]
    exact V_reti E dX7_tellsWord_45 rfl rfl ⟨_, rfl, ⟨by unfold wordS; rw [if_pos e_6]; exact R.kd I w hw.1 hw.2, rfl⟩⟩
  · rw [e_6]
    refine V_lookup G dX7_tellsWord_6 (tgt := 46) ⟨by decide, by decide⟩ (by decide) rfl (by decide) ?_
    refine V_aload0 G dX7_tellsWord_46 ?_
    refine V_getR G fl_X7_7 dX7_tellsWord_47 (by first | decide | assumption) (by first | rfl | assumption) rfl (by first | rfl | assumption) ?_
    refine V_bipush G dX7_tellsWord_50 (by decide) ?_
    refine V_iload1 G dX7_tellsWord_52 ?_
    refine V_iadd G dX7_tellsWord_53 ?_
    refine V_ialde G dX7_tellsWord_54 (by first | decide | assumption) (by first | rfl | assumption) (by decide) ⟨by omega, by omega⟩ hfx ?_
    refine V_ifle G dX7_tellsWord_55 (tgt := 62) (by decide) (by have := I.2.2.1 w hw.1 (by omega); exact ⟨by omega, by omega⟩) (fun c_55 => ?_) (fun c_55 => ?_)
    ·
      refine V_iconst G dX7_tellsWord_62 ?_
      exact V_reti E dX7_tellsWord_63 rfl rfl ⟨_, rfl, ⟨by unfold wordS; rw [if_neg (by omega), if_pos e_6]; first | (rw [if_pos (by omega)]; done) | (rw [if_neg (by omega)]; done), rfl⟩⟩
    ·
      refine V_iconst G dX7_tellsWord_58 ?_
      refine V_goto G dX7_tellsWord_59 (tgt := 63) (by decide) ?_
      exact V_reti E dX7_tellsWord_63 rfl rfl ⟨_, rfl, ⟨by unfold wordS; rw [if_neg (by omega), if_pos e_6]; first | (rw [if_pos (by omega)]; done) | (rw [if_neg (by omega)]; done), rfl⟩⟩
  · rw [e_6]
    refine V_lookup G dX7_tellsWord_6 (tgt := 64) ⟨by decide, by decide⟩ (by decide) rfl (by decide) ?_
    refine V_aload0 G dX7_tellsWord_64 ?_
    refine V_iload1 G dX7_tellsWord_65 ?_
    refine V_iconst G dX7_tellsWord_66 ?_
    refine V_cV2i (d1 := 3) G m_X7_229 dX7_tellsWord_67 (by first | decide | assumption) (by first | rfl | assumption) (c_heads r T R I L hw (Or.inl rfl)) (by omega) (by omega) (by omega) (Nat.le_of_ble_eq_true rfl) (fun x_67 h_67 hp_67 => ?_)
    rw [show x_67 = hdsS g.1 w from hp_67.1, hp_67.2]
    exact V_reti E dX7_tellsWord_70 rfl rfl ⟨_, rfl, ⟨by unfold wordS; rw [if_neg (by omega), if_neg (by omega), if_pos e_6], rfl⟩⟩
  · rw [e_6]
    refine V_lookup G dX7_tellsWord_6 (tgt := 71) ⟨by decide, by decide⟩ (by decide) rfl (by decide) ?_
    refine V_iload3 G dX7_tellsWord_71 ?_
    refine V_iconst G dX7_tellsWord_72 ?_
    refine V_icmpne G dX7_tellsWord_73 (tgt := 80) (by decide) (by first | exact r _ _ | assumption | exact ⟨by omega, by omega⟩) (by first | exact r _ _ | assumption | exact ⟨by omega, by omega⟩) (fun c_73 => ?_) (fun c_73 => ?_)
    ·
      have hl0 : ¬ ((lfS g.1).length : Int) = 0 := fun z => by rw [if_pos z] at hdr9; omega
      rw [if_neg hl0] at hdr9
      obtain ⟨u1, u2, u3⟩ := hcond hl0
      subst hdr9
      refine V_aload0 G dX7_tellsWord_80 ?_
      refine V_iload3 G dX7_tellsWord_81 ?_
      refine V_iload1 G dX7_tellsWord_82 ?_
      refine V_iload2 G dX7_tellsWord_83 ?_
      refine V_cV3i (d1 := 5) G m_X7_233 dX7_tellsWord_84 (by first | decide | assumption) (by first | rfl | assumption) (c_X7_tellsDrawn r T R I L u1 u2 hw ⟨by decide, by decide⟩) (by omega) (by omega) (by omega) (Nat.le_of_ble_eq_true rfl) (fun x_84 h_84 hp_84 => ?_)
      rw [hp_84.1, hp_84.2]
      exact V_reti E dX7_tellsWord_87 rfl rfl ⟨_, rfl, ⟨by unfold wordS; rw [if_neg (by omega), if_neg (by omega), if_neg (by omega)]; first | (rw [if_pos (by omega)]; done) | (rw [if_neg (by omega), e_6]; done), rfl⟩⟩
    ·
      have hl0 : ((lfS g.1).length : Int) = 0 := Decidable.byContradiction (fun z => by rw [if_neg z] at hdr9; have := hcond z; omega)
      refine V_iconst G dX7_tellsWord_76 ?_
      refine V_goto G dX7_tellsWord_77 (tgt := 87) (by decide) ?_
      exact V_reti E dX7_tellsWord_87 rfl rfl ⟨_, rfl, ⟨by unfold wordS; rw [if_neg (by omega), if_neg (by omega), if_neg (by omega)]; first | (rw [if_pos (by omega)]; done) | (rw [if_neg (by omega), e_6]; done), rfl⟩⟩
  · rw [e_6]
    refine V_lookup G dX7_tellsWord_6 (tgt := 71) ⟨by decide, by decide⟩ (by decide) rfl (by decide) ?_
    refine V_iload3 G dX7_tellsWord_71 ?_
    refine V_iconst G dX7_tellsWord_72 ?_
    refine V_icmpne G dX7_tellsWord_73 (tgt := 80) (by decide) (by first | exact r _ _ | assumption | exact ⟨by omega, by omega⟩) (by first | exact r _ _ | assumption | exact ⟨by omega, by omega⟩) (fun c_73 => ?_) (fun c_73 => ?_)
    ·
      have hl0 : ¬ ((lfS g.1).length : Int) = 0 := fun z => by rw [if_pos z] at hdr9; omega
      rw [if_neg hl0] at hdr9
      obtain ⟨u1, u2, u3⟩ := hcond hl0
      subst hdr9
      refine V_aload0 G dX7_tellsWord_80 ?_
      refine V_iload3 G dX7_tellsWord_81 ?_
      refine V_iload1 G dX7_tellsWord_82 ?_
      refine V_iload2 G dX7_tellsWord_83 ?_
      refine V_cV3i (d1 := 5) G m_X7_233 dX7_tellsWord_84 (by first | decide | assumption) (by first | rfl | assumption) (c_X7_tellsDrawn r T R I L u1 u2 hw ⟨by decide, by decide⟩) (by omega) (by omega) (by omega) (Nat.le_of_ble_eq_true rfl) (fun x_84 h_84 hp_84 => ?_)
      rw [hp_84.1, hp_84.2]
      exact V_reti E dX7_tellsWord_87 rfl rfl ⟨_, rfl, ⟨by unfold wordS; rw [if_neg (by omega), if_neg (by omega), if_neg (by omega)]; first | (rw [if_pos (by omega)]; done) | (rw [if_neg (by omega), e_6]; done), rfl⟩⟩
    ·
      have hl0 : ((lfS g.1).length : Int) = 0 := Decidable.byContradiction (fun z => by rw [if_neg z] at hdr9; have := hcond z; omega)
      refine V_iconst G dX7_tellsWord_76 ?_
      refine V_goto G dX7_tellsWord_77 (tgt := 87) (by decide) ?_
      exact V_reti E dX7_tellsWord_87 rfl rfl ⟨_, rfl, ⟨by unfold wordS; rw [if_neg (by omega), if_neg (by omega), if_neg (by omega)]; first | (rw [if_pos (by omega)]; done) | (rw [if_neg (by omega), e_6]; done), rfl⟩⟩
  · rw [e_6]
    refine V_lookup G dX7_tellsWord_6 (tgt := 71) ⟨by decide, by decide⟩ (by decide) rfl (by decide) ?_
    refine V_iload3 G dX7_tellsWord_71 ?_
    refine V_iconst G dX7_tellsWord_72 ?_
    refine V_icmpne G dX7_tellsWord_73 (tgt := 80) (by decide) (by first | exact r _ _ | assumption | exact ⟨by omega, by omega⟩) (by first | exact r _ _ | assumption | exact ⟨by omega, by omega⟩) (fun c_73 => ?_) (fun c_73 => ?_)
    ·
      have hl0 : ¬ ((lfS g.1).length : Int) = 0 := fun z => by rw [if_pos z] at hdr9; omega
      rw [if_neg hl0] at hdr9
      obtain ⟨u1, u2, u3⟩ := hcond hl0
      subst hdr9
      refine V_aload0 G dX7_tellsWord_80 ?_
      refine V_iload3 G dX7_tellsWord_81 ?_
      refine V_iload1 G dX7_tellsWord_82 ?_
      refine V_iload2 G dX7_tellsWord_83 ?_
      refine V_cV3i (d1 := 5) G m_X7_233 dX7_tellsWord_84 (by first | decide | assumption) (by first | rfl | assumption) (c_X7_tellsDrawn r T R I L u1 u2 hw ⟨by decide, by decide⟩) (by omega) (by omega) (by omega) (Nat.le_of_ble_eq_true rfl) (fun x_84 h_84 hp_84 => ?_)
      rw [hp_84.1, hp_84.2]
      exact V_reti E dX7_tellsWord_87 rfl rfl ⟨_, rfl, ⟨by unfold wordS; rw [if_neg (by omega), if_neg (by omega), if_neg (by omega)]; first | (rw [if_pos (by omega)]; done) | (rw [if_neg (by omega), e_6]; done), rfl⟩⟩
    ·
      have hl0 : ((lfS g.1).length : Int) = 0 := Decidable.byContradiction (fun z => by rw [if_neg z] at hdr9; have := hcond z; omega)
      refine V_iconst G dX7_tellsWord_76 ?_
      refine V_goto G dX7_tellsWord_77 (tgt := 87) (by decide) ?_
      exact V_reti E dX7_tellsWord_87 rfl rfl ⟨_, rfl, ⟨by unfold wordS; rw [if_neg (by omega), if_neg (by omega), if_neg (by omega)]; first | (rw [if_pos (by omega)]; done) | (rw [if_neg (by omega), e_6]; done), rfl⟩⟩
  · rw [e_6]
    refine V_lookup G dX7_tellsWord_6 (tgt := 71) ⟨by decide, by decide⟩ (by decide) rfl (by decide) ?_
    refine V_iload3 G dX7_tellsWord_71 ?_
    refine V_iconst G dX7_tellsWord_72 ?_
    refine V_icmpne G dX7_tellsWord_73 (tgt := 80) (by decide) (by first | exact r _ _ | assumption | exact ⟨by omega, by omega⟩) (by first | exact r _ _ | assumption | exact ⟨by omega, by omega⟩) (fun c_73 => ?_) (fun c_73 => ?_)
    ·
      have hl0 : ¬ ((lfS g.1).length : Int) = 0 := fun z => by rw [if_pos z] at hdr9; omega
      rw [if_neg hl0] at hdr9
      obtain ⟨u1, u2, u3⟩ := hcond hl0
      subst hdr9
      refine V_aload0 G dX7_tellsWord_80 ?_
      refine V_iload3 G dX7_tellsWord_81 ?_
      refine V_iload1 G dX7_tellsWord_82 ?_
      refine V_iload2 G dX7_tellsWord_83 ?_
      refine V_cV3i (d1 := 5) G m_X7_233 dX7_tellsWord_84 (by first | decide | assumption) (by first | rfl | assumption) (c_X7_tellsDrawn r T R I L u1 u2 hw ⟨by decide, by decide⟩) (by omega) (by omega) (by omega) (Nat.le_of_ble_eq_true rfl) (fun x_84 h_84 hp_84 => ?_)
      rw [hp_84.1, hp_84.2]
      exact V_reti E dX7_tellsWord_87 rfl rfl ⟨_, rfl, ⟨by unfold wordS; rw [if_neg (by omega), if_neg (by omega), if_neg (by omega)]; first | (rw [if_pos (by omega)]; done) | (rw [if_neg (by omega), e_6]; done), rfl⟩⟩
    ·
      have hl0 : ((lfS g.1).length : Int) = 0 := Decidable.byContradiction (fun z => by rw [if_neg z] at hdr9; have := hcond z; omega)
      refine V_iconst G dX7_tellsWord_76 ?_
      refine V_goto G dX7_tellsWord_77 (tgt := 87) (by decide) ?_
      exact V_reti E dX7_tellsWord_87 rfl rfl ⟨_, rfl, ⟨by unfold wordS; rw [if_neg (by omega), if_neg (by omega), if_neg (by omega)]; first | (rw [if_pos (by omega)]; done) | (rw [if_neg (by omega), e_6]; done), rfl⟩⟩
  · rw [e_6]
    refine V_lookup G dX7_tellsWord_6 (tgt := 71) ⟨by decide, by decide⟩ (by decide) rfl (by decide) ?_
    refine V_iload3 G dX7_tellsWord_71 ?_
    refine V_iconst G dX7_tellsWord_72 ?_
    refine V_icmpne G dX7_tellsWord_73 (tgt := 80) (by decide) (by first | exact r _ _ | assumption | exact ⟨by omega, by omega⟩) (by first | exact r _ _ | assumption | exact ⟨by omega, by omega⟩) (fun c_73 => ?_) (fun c_73 => ?_)
    ·
      have hl0 : ¬ ((lfS g.1).length : Int) = 0 := fun z => by rw [if_pos z] at hdr9; omega
      rw [if_neg hl0] at hdr9
      obtain ⟨u1, u2, u3⟩ := hcond hl0
      subst hdr9
      refine V_aload0 G dX7_tellsWord_80 ?_
      refine V_iload3 G dX7_tellsWord_81 ?_
      refine V_iload1 G dX7_tellsWord_82 ?_
      refine V_iload2 G dX7_tellsWord_83 ?_
      refine V_cV3i (d1 := 5) G m_X7_233 dX7_tellsWord_84 (by first | decide | assumption) (by first | rfl | assumption) (c_X7_tellsDrawn r T R I L u1 u2 hw ⟨by decide, by decide⟩) (by omega) (by omega) (by omega) (Nat.le_of_ble_eq_true rfl) (fun x_84 h_84 hp_84 => ?_)
      rw [hp_84.1, hp_84.2]
      exact V_reti E dX7_tellsWord_87 rfl rfl ⟨_, rfl, ⟨by unfold wordS; rw [if_neg (by omega), if_neg (by omega), if_neg (by omega)]; first | (rw [if_pos (by omega)]; done) | (rw [if_neg (by omega), e_6]; done), rfl⟩⟩
    ·
      have hl0 : ((lfS g.1).length : Int) = 0 := Decidable.byContradiction (fun z => by rw [if_neg z] at hdr9; have := hcond z; omega)
      refine V_iconst G dX7_tellsWord_76 ?_
      refine V_goto G dX7_tellsWord_77 (tgt := 87) (by decide) ?_
      exact V_reti E dX7_tellsWord_87 rfl rfl ⟨_, rfl, ⟨by unfold wordS; rw [if_neg (by omega), if_neg (by omega), if_neg (by omega)]; first | (rw [if_pos (by omega)]; done) | (rw [if_neg (by omega), e_6]; done), rfl⟩⟩

set_option maxRecDepth 100000 in
set_option maxHeartbeats 4000000 in
theorem c_X7_wordOf {l : Launch} {d : Nat} {h : Hp} (r : Rg h) {g : Sg} (T : RdsOk) (R : RepM g h) (I : okS g.1) {w q : Int} (hw : inr w) (hq : inr q) (hd : 7 ≤ d := by omega) : CP l d 0 0 yX7_wordOf cX7_wordOf 3 (Option.some Jvm.ClassFile.FieldType.int) [.ref 77, iv w, iv q] h (pI fun x h1 => aft (opWord g w q) x h h1) := by
  refine CP.ofV (L := [some (.ref 77), some (.int (Int32.ofInt w)), some (.int (Int32.ofInt q))]) RX7 (by decide +kernel) rfl (Nat.le_of_ble_eq_true rfl) rfl (fun X hX G E => ?_)
  subst hX
  have r0 : Rg (sI h 77 0 0) := r.sI ⟨by decide, by decide⟩
  have R0 : RepM g (sI h 77 0 0) := R.thr
  have e0 : eqx SM h (sI h 77 0 0) := eqx.rf.st rfl
  have hn := R0.n
  have hn0 := I.1
  refine V_aload0 G dX7_wordOf_0 ?_
  refine V_iconst G dX7_wordOf_1 ?_
  refine V_putI (jz := 0) G fw_X7_68 dX7_wordOf_2 (by first | decide | assumption) (by first | rfl | assumption) rfl rfl ?_
  refine V_aload0 G dX7_wordOf_5 ?_
  refine V_iload1 G dX7_wordOf_6 ?_
  refine V_cV1i (d1 := 2) G m_X7_199 dX7_wordOf_7 (by first | decide | assumption) (by first | rfl | assumption) (c_X7_isWord r0 (n := nS g.1) hn hn0 hw) (by omega) (by omega) (by omega) (Nat.le_of_ble_eq_true rfl) (fun x_7 h_7 hp_7 => ?_)
  rw [hp_7.1, hp_7.2]
  refine V_ifneB G dX7_wordOf_10 (tgt := 19) (by decide)  (fun c_10 => ?_) (fun c_10 => ?_)
  ·
    refine V_iload2 G dX7_wordOf_19 ?_
    refine V_iconst G dX7_wordOf_20 ?_
    refine V_bipush G dX7_wordOf_21 (by decide) ?_
    refine V_cS3i (d1 := 1) G m_X7_72 dX7_wordOf_23 (c_X7_in (v := q) (a := 0) (b := 7) hq ⟨by decide, by decide⟩ ⟨by decide, by decide⟩) (by omega) (by omega) (by omega) (Nat.le_of_ble_eq_true rfl) (fun x_23 h_23 hp_23 => ?_)
    rw [hp_23.1, hp_23.2]
    refine V_ifneB G dX7_wordOf_26 (tgt := 35) (by decide)  (fun c_26 => ?_) (fun c_26 => ?_)
    ·
      refine V_aload0 G dX7_wordOf_35 ?_
      refine V_cV0v (d1 := 6) G m_X7_187 dX7_wordOf_36 (by first | decide | assumption) (by first | rfl | assumption) (c_lays r0 T R0 hn0 I.2.1) (by omega) (by omega) (by omega) (Nat.le_of_ble_eq_true rfl) (fun h_36 hp_36 => ?_)
      obtain ⟨v1, v2, v3, v4⟩ := hp_36
      have e1 := e0.tr (Sl_SM v1)
      obtain ⟨w1, w2, w3⟩ := lfS_at T I v3
      have hA42 := AS_le T I
      have r := v2
      have v77 : hI h_36 77 0 = 0 := (v1.1 77 0 rfl).trans (by simp [hI_sI])
      have hn8 := v4.n
      refine V_aload0 G dX7_wordOf_39 ?_
      refine V_iload1 G dX7_wordOf_40 ?_
      refine V_iload2 G dX7_wordOf_41 ?_
      refine V_cV2i (d1 := 6) G m_X7_240 dX7_wordOf_42 (by first | decide | assumption) (by first | rfl | assumption) (c_X7_tellsWord v2 T v4 I v3 c_10 c_26) (by omega) (by omega) (by omega) (Nat.le_of_ble_eq_true rfl) (fun x_42 h_42 hp_42 => ?_)
      rw [hp_42.1, hp_42.2]
      exact V_reti E dX7_wordOf_45 rfl rfl ⟨_, rfl, by
    unfold opWord
    rw [if_neg (fun z => z c_10), if_neg (fun z => z c_26)]
    exact ⟨e1, v2, v77, v4, fun _ => rfl⟩⟩
    ·
      refine V_aload0 G dX7_wordOf_29 ?_
      refine V_iconst G dX7_wordOf_30 ?_
      refine V_cV1i (d1 := 1) G m_X7_190 dX7_wordOf_31 (by first | decide | assumption) (by first | rfl | assumption) (c_X7_fails) (by omega) (by omega) (by omega) (Nat.le_of_ble_eq_true rfl) (fun x_31 h_31 hp_31 => ?_)
      rw [hp_31.1, hp_31.2]
      exact V_reti E dX7_wordOf_34 rfl rfl ⟨_, rfl, by unfold opWord; rw [if_neg (fun z => z c_10), if_pos c_26]; exact aft_fail e0 r0 R0 (by decide) ⟨by decide, by decide⟩⟩
  ·
    refine V_aload0 G dX7_wordOf_13 ?_
    refine V_iconst G dX7_wordOf_14 ?_
    refine V_cV1i (d1 := 1) G m_X7_190 dX7_wordOf_15 (by first | decide | assumption) (by first | rfl | assumption) (c_X7_fails) (by omega) (by omega) (by omega) (Nat.le_of_ble_eq_true rfl) (fun x_15 h_15 hp_15 => ?_)
    rw [hp_15.1, hp_15.2]
    exact V_reti E dX7_wordOf_18 rfl rfl ⟨_, rfl, by unfold opWord; rw [if_pos c_10]; exact aft_fail e0 r0 R0 (by decide) ⟨by decide, by decide⟩⟩


theorem c_cnt {l : Launch} {d : Nat} {h : Hp} (r : Rg h) {g : Sg} (R : RepM g h) (I : okS g.1) {kd : Int} (hk : inr kd) (hd : 2 ≤ d := by omega) : CP l d 0 0 yX7_wordsOf cX7_wordsOf 4 (Option.some Jvm.ClassFile.FieldType.int) [.ref 77, iv kd] h (pI fun x h1 => x = cntK g.1 kd ∧ h1 = h) := by
  refine (c_X7_wordsOf r R.n I.1 hk (by omega)).mono ?_
  rintro rr q ⟨x, q1, q2, q3⟩
  exact ⟨x, q1, q2.trans (sumF_congr _ _ (fun k k1 k2 => by rw [R.kd I k k1 (by omega)])), q3⟩

set_option maxRecDepth 100000 in
set_option maxHeartbeats 4000000 in
theorem c_X7_tellsReading {l : Launch} {d : Nat} {h : Hp} (r : Rg h) {g : Sg} (T : RdsOk) (R : RepM g h) (I : okS g.1) (L : LaidM g.1 h) {p q : Int} (hp : 0 ≤ p ∧ p < (lfS g.1).length) (hq : 0 ≤ q ∧ q ≤ 5) (hd : 6 ≤ d := by omega) : CP l d 0 0 yX7_tellsReading cX7_tellsReading 4 (Option.some Jvm.ClassFile.FieldType.int) [.ref 77, iv p, iv q] h (pI fun x h1 => x = readS g.1 p q ∧ h1 = h) := by
  refine CP.ofV (L := [some (.ref 77), some (.int (Int32.ofInt p)), some (.int (Int32.ofInt q)), none]) RX7 (by decide +kernel) rfl (Nat.le_of_ble_eq_true rfl) rfl (fun X hX G E => ?_)
  subst hX
  have hA := AS_le T I
  have hn := R.n
  have hn0 := I.1
  obtain ⟨w1, w2, w3⟩ := lfS_at T I L
  obtain ⟨u1, u2, u3⟩ := w3 p hp.1 hp.2
  obtain ⟨e1, e2, e3, e4, e5⟩ := laid_row T R I L u2 u3
  refine V_aload0 G dX7_tellsReading_0 ?_
  refine V_getR G fl_X7_47 dX7_tellsReading_1 (by first | decide | assumption) (by first | rfl | assumption) rfl (by first | rfl | assumption) ?_
  refine V_iload1 G dX7_tellsReading_4 ?_
  refine V_ialde G dX7_tellsReading_5 (by first | decide | assumption) (by first | rfl | assumption) (by decide) ⟨by omega, by omega⟩ (by first | (simp only [hI_sI, hI_sL, hL_sI, hL_sL, false_and, true_and, and_false, and_true, and_self, if_false, if_true, u1]; first | done | rfl) | rfl) ?_
  refine V_istore3 G dX7_tellsReading_6 rfl ?_
  refine V_iload2 G dX7_tellsReading_7 ?_
  rcases (show q = 0 ∨ q = 1 ∨ q = 2 ∨ q = 3 ∨ q = 4 ∨ (q < 0 ∨ 4 < q) by omega) with e_8 | e_8 | e_8 | e_8 | e_8 | e_8
  · rw [e_8]
    refine V_tableIn G dX7_tellsReading_8 (tgt := 44) ⟨by decide, by decide⟩ (by decide) (by decide) rfl (by decide) ?_
    refine V_aload0 G dX7_tellsReading_44 ?_
    refine V_iload3 G dX7_tellsReading_45 ?_
    refine V_cV1i (d1 := 5) G m_X7_208 dX7_tellsReading_46 (by first | decide | assumption) (by first | rfl | assumption) (c_hgt r T R I L u2 u3) (by omega) (by omega) (by omega) (Nat.le_of_ble_eq_true rfl) (fun x_46 h_46 hp_46 => ?_)
    rw [hp_46.1, hp_46.2]
    exact V_reti E dX7_tellsReading_49 rfl rfl ⟨_, rfl, ⟨by unfold readS; rw [if_pos e_8], rfl⟩⟩
  · rw [e_8]
    refine V_tableIn G dX7_tellsReading_8 (tgt := 50) ⟨by decide, by decide⟩ (by decide) (by decide) rfl (by decide) ?_
    refine V_aload0 G dX7_tellsReading_50 ?_
    refine V_iconst G dX7_tellsReading_51 ?_
    refine V_cV1i (d1 := 2) G m_X7_243 dX7_tellsReading_52 (by first | decide | assumption) (by first | rfl | assumption) (c_cnt r R I ⟨by decide, by decide⟩) (by omega) (by omega) (by omega) (Nat.le_of_ble_eq_true rfl) (fun x_52 h_52 hp_52 => ?_)
    rw [hp_52.1, hp_52.2]
    exact V_reti E dX7_tellsReading_55 rfl rfl ⟨_, rfl, ⟨by unfold readS; rw [if_neg (by omega), if_pos e_8], rfl⟩⟩
  · rw [e_8]
    refine V_tableIn G dX7_tellsReading_8 (tgt := 56) ⟨by decide, by decide⟩ (by decide) (by decide) rfl (by decide) ?_
    refine V_aload0 G dX7_tellsReading_56 ?_
    refine V_iconst G dX7_tellsReading_57 ?_
    refine V_cV1i (d1 := 2) G m_X7_243 dX7_tellsReading_58 (by first | decide | assumption) (by first | rfl | assumption) (c_cnt r R I ⟨by decide, by decide⟩) (by omega) (by omega) (by omega) (Nat.le_of_ble_eq_true rfl) (fun x_58 h_58 hp_58 => ?_)
    rw [hp_58.1, hp_58.2]
    refine V_aload0 G dX7_tellsReading_61 ?_
    refine V_iconst G dX7_tellsReading_62 ?_
    refine V_cV1i (d1 := 2) G m_X7_243 dX7_tellsReading_63 (by first | decide | assumption) (by first | rfl | assumption) (c_cnt r R I ⟨by decide, by decide⟩) (by omega) (by omega) (by omega) (Nat.le_of_ble_eq_true rfl) (fun x_63 h_63 hp_63 => ?_)
    rw [hp_63.1, hp_63.2]
    refine V_iadd G dX7_tellsReading_66 ?_
    refine V_aload0 G dX7_tellsReading_67 ?_
    refine V_iconst G dX7_tellsReading_68 ?_
    refine V_cV1i (d1 := 2) G m_X7_243 dX7_tellsReading_69 (by first | decide | assumption) (by first | rfl | assumption) (c_cnt r R I ⟨by decide, by decide⟩) (by omega) (by omega) (by omega) (Nat.le_of_ble_eq_true rfl) (fun x_69 h_69 hp_69 => ?_)
    rw [hp_69.1, hp_69.2]
    refine V_iadd G dX7_tellsReading_72 ?_
    exact V_reti E dX7_tellsReading_73 rfl rfl ⟨_, rfl, ⟨by unfold readS; rw [if_neg (by omega), if_neg (by omega), if_pos e_8], rfl⟩⟩
  · rw [e_8]
    refine V_tableIn G dX7_tellsReading_8 (tgt := 74) ⟨by decide, by decide⟩ (by decide) (by decide) rfl (by decide) ?_
    refine V_aload0 G dX7_tellsReading_74 ?_
    refine V_iconst G dX7_tellsReading_75 ?_
    refine V_cV1i (d1 := 2) G m_X7_243 dX7_tellsReading_76 (by first | decide | assumption) (by first | rfl | assumption) (c_cnt r R I ⟨by decide, by decide⟩) (by omega) (by omega) (by omega) (Nat.le_of_ble_eq_true rfl) (fun x_76 h_76 hp_76 => ?_)
    rw [hp_76.1, hp_76.2]
    exact V_reti E dX7_tellsReading_79 rfl rfl ⟨_, rfl, ⟨by unfold readS; rw [if_neg (by omega), if_neg (by omega), if_neg (by omega), if_pos e_8], rfl⟩⟩
  · rw [e_8]
    refine V_tableIn G dX7_tellsReading_8 (tgt := 80) ⟨by decide, by decide⟩ (by decide) (by decide) rfl (by decide) ?_
    refine V_aload0 G dX7_tellsReading_80 ?_
    refine V_iload3 G dX7_tellsReading_81 ?_
    refine V_cV1i (d1 := 3) G m_X7_246 dX7_tellsReading_82 (by first | decide | assumption) (by first | rfl | assumption) (c_X7_mostHeld r hn hn0 (by omega)) (by omega) (by omega) (by omega) (Nat.le_of_ble_eq_true rfl) (fun x_82 h_82 hp_82 => ?_)
    rw [hp_82.1, hp_82.2]
    exact V_reti E dX7_tellsReading_85 rfl rfl ⟨_, rfl, ⟨by unfold readS; rw [if_neg (by omega), if_neg (by omega), if_neg (by omega), if_neg (by omega), if_pos e_8]; exact mxF_congr _ _ _ (fun j _ _ => hldF_congr e1 j), rfl⟩⟩
  ·
    refine V_tableOut G dX7_tellsReading_8 (tgt := 86) ⟨by omega, by omega⟩ (by omega) (by decide) ?_
    refine V_iload3 G dX7_tellsReading_86 ?_
    exact V_reti E dX7_tellsReading_87 rfl rfl ⟨_, rfl, ⟨by unfold readS; rw [if_neg (by omega), if_neg (by omega), if_neg (by omega), if_neg (by omega), if_neg (by omega)], rfl⟩⟩

set_option maxRecDepth 100000 in
set_option maxHeartbeats 4000000 in
theorem c_X7_readingOf {l : Launch} {d : Nat} {h : Hp} (r : Rg h) {g : Sg} (T : RdsOk) (R : RepM g h) (I : okS g.1) {p q : Int} (hp : inr p) (hq : inr q) (hd : 7 ≤ d := by omega) : CP l d 0 0 yX7_readingOf cX7_readingOf 3 (Option.some Jvm.ClassFile.FieldType.int) [.ref 77, iv p, iv q] h (pI fun x h1 => aft (opRead g p q) x h h1) := by
  refine CP.ofV (L := [some (.ref 77), some (.int (Int32.ofInt p)), some (.int (Int32.ofInt q))]) RX7 (by decide +kernel) rfl (Nat.le_of_ble_eq_true rfl) rfl (fun X hX G E => ?_)
  subst hX
  have r0 : Rg (sI h 77 0 0) := r.sI ⟨by decide, by decide⟩
  have R0 : RepM g (sI h 77 0 0) := R.thr
  have e0 : eqx SM h (sI h 77 0 0) := eqx.rf.st rfl
  have hn := R0.n
  have hn0 := I.1
  refine V_aload0 G dX7_readingOf_0 ?_
  refine V_iconst G dX7_readingOf_1 ?_
  refine V_putI (jz := 0) G fw_X7_68 dX7_readingOf_2 (by first | decide | assumption) (by first | rfl | assumption) rfl rfl ?_
  refine V_aload0 G dX7_readingOf_5 ?_
  refine V_cV0v (d1 := 6) G m_X7_187 dX7_readingOf_6 (by first | decide | assumption) (by first | rfl | assumption) (c_lays r0 T R0 hn0 I.2.1) (by omega) (by omega) (by omega) (Nat.le_of_ble_eq_true rfl) (fun h_6 hp_6 => ?_)
  obtain ⟨v1, v2, v3, v4⟩ := hp_6
  have e1 := e0.tr (Sl_SM v1)
  obtain ⟨w1, w2, w3⟩ := lfS_at T I v3
  have hA42 := AS_le T I
  have r := v2
  have v77 : hI h_6 77 0 = 0 := (v1.1 77 0 rfl).trans (by simp [hI_sI])
  have hn8 := v4.n
  refine V_iload1 G dX7_readingOf_9 ?_
  refine V_iconst G dX7_readingOf_10 ?_
  refine V_aload0 G dX7_readingOf_11 ?_
  refine V_getIe (jz := 18) G fl_X7_142 dX7_readingOf_12 (by first | decide | assumption) (by first | rfl | assumption) rfl rfl (by first | (simp only [hI_sI, hI_sL, hL_sI, hL_sL, false_and, true_and, and_false, and_true, and_self, if_false, if_true, w2]; first | done | rfl) | rfl) ?_
  refine V_iconst G dX7_readingOf_15 ?_
  refine V_isub G dX7_readingOf_16 ?_
  refine V_cS3i (d1 := 1) G m_X7_72 dX7_readingOf_17 (c_X7_in (v := p) (a := 0) (b := (lfS g.1).length - 1) hp ⟨by decide, by decide⟩ ⟨by omega, by omega⟩) (by omega) (by omega) (by omega) (Nat.le_of_ble_eq_true rfl) (fun x_17 h_17 hp_17 => ?_)
  rw [hp_17.1, hp_17.2]
  refine V_ifneB G dX7_readingOf_20 (tgt := 29) (by decide)  (fun c_20 => ?_) (fun c_20 => ?_)
  ·
    refine V_iload2 G dX7_readingOf_29 ?_
    refine V_iconst G dX7_readingOf_30 ?_
    refine V_iconst G dX7_readingOf_31 ?_
    refine V_cS3i (d1 := 1) G m_X7_72 dX7_readingOf_32 (c_X7_in (v := q) (a := 0) (b := 5) hq ⟨by decide, by decide⟩ ⟨by decide, by decide⟩) (by omega) (by omega) (by omega) (Nat.le_of_ble_eq_true rfl) (fun x_32 h_32 hp_32 => ?_)
    rw [hp_32.1, hp_32.2]
    refine V_ifeqB G dX7_readingOf_35 (tgt := 47) (by decide)  (fun c_35 => ?_) (fun c_35 => ?_)
    ·
      refine V_aload0 G dX7_readingOf_47 ?_
      refine V_iconst G dX7_readingOf_48 ?_
      refine V_cV1i (d1 := 1) G m_X7_190 dX7_readingOf_49 (by first | decide | assumption) (by first | rfl | assumption) (c_X7_fails) (by omega) (by omega) (by omega) (Nat.le_of_ble_eq_true rfl) (fun x_49 h_49 hp_49 => ?_)
      rw [hp_49.1, hp_49.2]
      exact V_reti E dX7_readingOf_52 rfl rfl ⟨_, rfl, by
    unfold opRead
    first
    | (rw [if_neg (by omega), if_neg (by omega)]; exact ⟨e1, v2, v77, v4, fun _ => rfl⟩)
    | (rw [if_neg (by omega), if_pos (by omega)]; exact aft_fail e1 v2 v4 (by decide) ⟨by decide, by decide⟩)⟩
    ·
      refine V_aload0 G dX7_readingOf_38 ?_
      refine V_iload1 G dX7_readingOf_39 ?_
      refine V_iload2 G dX7_readingOf_40 ?_
      refine V_cV2i (d1 := 6) G m_X7_249 dX7_readingOf_41 (by first | decide | assumption) (by first | rfl | assumption) (c_X7_tellsReading v2 T v4 I v3 (by omega) c_35) (by omega) (by omega) (by omega) (Nat.le_of_ble_eq_true rfl) (fun x_41 h_41 hp_41 => ?_)
      rw [hp_41.1, hp_41.2]
      refine V_goto G dX7_readingOf_44 (tgt := 52) (by decide) ?_
      exact V_reti E dX7_readingOf_52 rfl rfl ⟨_, rfl, by
    unfold opRead
    first
    | (rw [if_neg (by omega), if_neg (by omega)]; exact ⟨e1, v2, v77, v4, fun _ => rfl⟩)
    | (rw [if_neg (by omega), if_pos (by omega)]; exact aft_fail e1 v2 v4 (by decide) ⟨by decide, by decide⟩)⟩
  ·
    refine V_aload0 G dX7_readingOf_23 ?_
    refine V_iconst G dX7_readingOf_24 ?_
    refine V_cV1i (d1 := 1) G m_X7_190 dX7_readingOf_25 (by first | decide | assumption) (by first | rfl | assumption) (c_X7_fails) (by omega) (by omega) (by omega) (Nat.le_of_ble_eq_true rfl) (fun x_25 h_25 hp_25 => ?_)
    rw [hp_25.1, hp_25.2]
    exact V_reti E dX7_readingOf_28 rfl rfl ⟨_, rfl, by unfold opRead; rw [if_pos (by omega)]; exact aft_fail e1 v2 v4 (by decide) ⟨by decide, by decide⟩⟩

set_option maxRecDepth 100000 in
set_option maxHeartbeats 4000000 in
theorem c_X7_asked {l : Launch} {d : Nat} {h : Hp} (r : Rg h) {g : Sg} (T : RdsOk) (R : RepM g h) (I : okS g.1) (L : LaidM g.1 h) (hd : 4 ≤ d := by omega) : CP l d 0 0 yX7_asked cX7_asked 6 (Option.some Jvm.ClassFile.FieldType.int) [.ref 77] h (pI fun x h1 => x = askS g.1 ∧ h1 = h) := by
  refine CP.ofV (L := [some (.ref 77), none, none, none, none, none]) RX7 (by decide +kernel) rfl (Nat.le_of_ble_eq_true rfl) rfl (fun X hX G E => ?_)
  subst hX
  have hA := AS_le T I
  have hn := R.n
  have hn0 := I.1
  obtain ⟨w1, w2, w3⟩ := lfS_at T I L
  have lp : ∀ (m : Nat) (k : Int) (b : Int) (f : Int) (a4 : Option Value) (a5 : Option Value), k + m = nS g.1 → 0 ≤ k → -1 ≤ b ∧ b ≤ 12 → 0 ≤ f ∧ f ≤ 42 → askF (hdsS g.1) (mosS g.1) m k b f = askS g.1 → V X 0 0 6 [some (.ref 77), some (.int (Int32.ofInt b)), some (.int (Int32.ofInt f)), some (.int (Int32.ofInt k)), a4, a5] [] h := by
    intro m
    induction m with
    | zero =>
      intro k b f a4 a5 hm_ hk0 hb hf hs
      refine V_iload3 G dX7_asked_6 ?_
      refine V_aload0 G dX7_asked_7 ?_
      refine V_getR G fl_X7_7 dX7_asked_8 (by first | decide | assumption) (by first | rfl | assumption) rfl (by first | rfl | assumption) ?_
      refine V_iconst G dX7_asked_11 ?_
      refine V_ialde G dX7_asked_12 (by first | decide | assumption) (by first | rfl | assumption) (by decide) ⟨by omega, by omega⟩ (by first | (simp only [hI_sI, hI_sL, hL_sI, hL_sL, false_and, true_and, and_false, and_true, and_self, if_false, if_true, hn]; first | done | rfl) | rfl) ?_
      refine V_icmpge G dX7_asked_13 (tgt := 81) (by decide) (by first | exact r _ _ | assumption | exact ⟨by omega, by omega⟩) (by first | exact r _ _ | assumption | exact ⟨by omega, by omega⟩) (fun c_13 => ?_) (fun c_13 => ?_)
      ·
        refine V_iload1 G dX7_asked_81 ?_
        exact V_reti E dX7_asked_82 rfl rfl ⟨_, rfl, ⟨by rw [← hs]; rfl, rfl⟩⟩
      · omega
    | succ m ih =>
      intro k b f a4 a5 hm_ hk0 hb hf hs
      refine V_iload3 G dX7_asked_6 ?_
      refine V_aload0 G dX7_asked_7 ?_
      refine V_getR G fl_X7_7 dX7_asked_8 (by first | decide | assumption) (by first | rfl | assumption) rfl (by first | rfl | assumption) ?_
      refine V_iconst G dX7_asked_11 ?_
      refine V_ialde G dX7_asked_12 (by first | decide | assumption) (by first | rfl | assumption) (by decide) ⟨by omega, by omega⟩ (by first | (simp only [hI_sI, hI_sL, hL_sI, hL_sL, false_and, true_and, and_false, and_true, and_self, if_false, if_true, hn]; first | done | rfl) | rfl) ?_
      refine V_icmpge G dX7_asked_13 (tgt := 81) (by decide) (by first | exact r _ _ | assumption | exact ⟨by omega, by omega⟩) (by first | exact r _ _ | assumption | exact ⟨by omega, by omega⟩) (fun c_13 => ?_) (fun c_13 => ?_)
      · omega
      ·
        refine V_aload0 G dX7_asked_16 ?_
        refine V_iload3 G dX7_asked_17 ?_
        refine V_iconst G dX7_asked_18 ?_
        refine V_cV2i (d1 := 3) G m_X7_229 dX7_asked_19 (by first | decide | assumption) (by first | rfl | assumption) (c_heads r T R I L (w := k) (ms := 1) ⟨hk0, by omega⟩ (Or.inr rfl)) (by omega) (by omega) (by omega) (Nat.le_of_ble_eq_true rfl) (fun x_19 h_19 hp_19 => ?_)
        rw [show x_19 = mosS g.1 k from hp_19.1, hp_19.2]
        have hmr := mosS_r (c := g.1) k
        have hhr := hdsS_r (c := g.1) k hn0.2
        refine V_istore4 G dX7_asked_22 rfl ?_
        refine V_aload0 G dX7_asked_24 ?_
        refine V_iload3 G dX7_asked_25 ?_
        refine V_iconst G dX7_asked_26 ?_
        refine V_cV2i (d1 := 3) G m_X7_229 dX7_asked_27 (by first | decide | assumption) (by first | rfl | assumption) (c_heads r T R I L (w := k) (ms := 0) ⟨hk0, by omega⟩ (Or.inl rfl)) (by omega) (by omega) (by omega) (Nat.le_of_ble_eq_true rfl) (fun x_27 h_27 hp_27 => ?_)
        rw [show x_27 = hdsS g.1 k from hp_27.1, hp_27.2]
        refine V_iconst G dX7_asked_30 ?_
        refine V_icmple G dX7_asked_31 (tgt := 49) (by decide) (by first | exact r _ _ | assumption | exact ⟨by omega, by omega⟩) (by first | exact r _ _ | assumption | exact ⟨by omega, by omega⟩) (fun c_31 => ?_) (fun c_31 => ?_)
        ·
          refine V_iconst G dX7_asked_49 ?_
          refine V_istore5 G dX7_asked_50 rfl ?_
          refine V_iload5 G dX7_asked_52 ?_
          refine V_ifeq G dX7_asked_54 (tgt := 61) (by decide) (by first | exact r _ _ | assumption | exact ⟨by omega, by omega⟩) (fun c_54 => ?_) (fun c_54 => ?_)
          ·
            refine V_iload1 G dX7_asked_61 ?_
            refine V_istore1 G dX7_asked_62 rfl ?_
            refine V_iload5 G dX7_asked_63 ?_
            refine V_ifeq G dX7_asked_65 (tgt := 73) (by decide) (by first | exact r _ _ | assumption | exact ⟨by omega, by omega⟩) (fun c_65 => ?_) (fun c_65 => ?_)
            ·
              refine V_iload2 G dX7_asked_73 ?_
              refine V_istore2 G dX7_asked_74 rfl ?_
              refine V_iinc3 G dX7_asked_75 rfl ?_
              refine V_goto G dX7_asked_78 (tgt := 6) (by decide) ?_
              first | exact absurd rfl c_65 | exact absurd rfl c_54 | exact absurd c_54 (by decide) | exact absurd c_65 (by decide) | exact ih (k + 1) _ _ _ _ (by omega) (by omega) (by omega) (by omega) (by rw [← hs, askF]; first | rw [if_pos (by omega)] | rw [if_neg (by omega)])
            ·
              refine V_iload4 G dX7_asked_68 ?_
              refine V_goto G dX7_asked_70 (tgt := 74) (by decide) ?_
              refine V_istore2 G dX7_asked_74 rfl ?_
              refine V_iinc3 G dX7_asked_75 rfl ?_
              refine V_goto G dX7_asked_78 (tgt := 6) (by decide) ?_
              first | exact absurd rfl c_65 | exact absurd rfl c_54 | exact absurd c_54 (by decide) | exact absurd c_65 (by decide) | exact ih (k + 1) _ _ _ _ (by omega) (by omega) (by omega) (by omega) (by rw [← hs, askF]; first | rw [if_pos (by omega)] | rw [if_neg (by omega)])
          ·
            refine V_iload3 G dX7_asked_57 ?_
            refine V_goto G dX7_asked_58 (tgt := 62) (by decide) ?_
            refine V_istore1 G dX7_asked_62 rfl ?_
            refine V_iload5 G dX7_asked_63 ?_
            refine V_ifeq G dX7_asked_65 (tgt := 73) (by decide) (by first | exact r _ _ | assumption | exact ⟨by omega, by omega⟩) (fun c_65 => ?_) (fun c_65 => ?_)
            ·
              refine V_iload2 G dX7_asked_73 ?_
              refine V_istore2 G dX7_asked_74 rfl ?_
              refine V_iinc3 G dX7_asked_75 rfl ?_
              refine V_goto G dX7_asked_78 (tgt := 6) (by decide) ?_
              first | exact absurd rfl c_65 | exact absurd rfl c_54 | exact absurd c_54 (by decide) | exact absurd c_65 (by decide) | exact ih (k + 1) _ _ _ _ (by omega) (by omega) (by omega) (by omega) (by rw [← hs, askF]; first | rw [if_pos (by omega)] | rw [if_neg (by omega)])
            ·
              refine V_iload4 G dX7_asked_68 ?_
              refine V_goto G dX7_asked_70 (tgt := 74) (by decide) ?_
              refine V_istore2 G dX7_asked_74 rfl ?_
              refine V_iinc3 G dX7_asked_75 rfl ?_
              refine V_goto G dX7_asked_78 (tgt := 6) (by decide) ?_
              first | exact absurd rfl c_65 | exact absurd rfl c_54 | exact absurd c_54 (by decide) | exact absurd c_65 (by decide) | exact ih (k + 1) _ _ _ _ (by omega) (by omega) (by omega) (by omega) (by rw [← hs, askF]; first | rw [if_pos (by omega)] | rw [if_neg (by omega)])
        ·
          refine V_iload1 G dX7_asked_34 ?_
          refine V_iconst G dX7_asked_35 ?_
          refine V_icmpeq G dX7_asked_36 (tgt := 45) (by decide) (by first | exact r _ _ | assumption | exact ⟨by omega, by omega⟩) (by first | exact r _ _ | assumption | exact ⟨by omega, by omega⟩) (fun c_36 => ?_) (fun c_36 => ?_)
          ·
            refine V_iconst G dX7_asked_45 ?_
            refine V_goto G dX7_asked_46 (tgt := 50) (by decide) ?_
            refine V_istore5 G dX7_asked_50 rfl ?_
            refine V_iload5 G dX7_asked_52 ?_
            refine V_ifeq G dX7_asked_54 (tgt := 61) (by decide) (by first | exact r _ _ | assumption | exact ⟨by omega, by omega⟩) (fun c_54 => ?_) (fun c_54 => ?_)
            ·
              refine V_iload1 G dX7_asked_61 ?_
              refine V_istore1 G dX7_asked_62 rfl ?_
              refine V_iload5 G dX7_asked_63 ?_
              refine V_ifeq G dX7_asked_65 (tgt := 73) (by decide) (by first | exact r _ _ | assumption | exact ⟨by omega, by omega⟩) (fun c_65 => ?_) (fun c_65 => ?_)
              ·
                refine V_iload2 G dX7_asked_73 ?_
                refine V_istore2 G dX7_asked_74 rfl ?_
                refine V_iinc3 G dX7_asked_75 rfl ?_
                refine V_goto G dX7_asked_78 (tgt := 6) (by decide) ?_
                first | exact absurd rfl c_65 | exact absurd rfl c_54 | exact absurd c_54 (by decide) | exact absurd c_65 (by decide) | exact ih (k + 1) _ _ _ _ (by omega) (by omega) (by omega) (by omega) (by rw [← hs, askF]; first | rw [if_pos (by omega)] | rw [if_neg (by omega)])
              ·
                refine V_iload4 G dX7_asked_68 ?_
                refine V_goto G dX7_asked_70 (tgt := 74) (by decide) ?_
                refine V_istore2 G dX7_asked_74 rfl ?_
                refine V_iinc3 G dX7_asked_75 rfl ?_
                refine V_goto G dX7_asked_78 (tgt := 6) (by decide) ?_
                first | exact absurd rfl c_65 | exact absurd rfl c_54 | exact absurd c_54 (by decide) | exact absurd c_65 (by decide) | exact ih (k + 1) _ _ _ _ (by omega) (by omega) (by omega) (by omega) (by rw [← hs, askF]; first | rw [if_pos (by omega)] | rw [if_neg (by omega)])
            ·
              refine V_iload3 G dX7_asked_57 ?_
              refine V_goto G dX7_asked_58 (tgt := 62) (by decide) ?_
              refine V_istore1 G dX7_asked_62 rfl ?_
              refine V_iload5 G dX7_asked_63 ?_
              refine V_ifeq G dX7_asked_65 (tgt := 73) (by decide) (by first | exact r _ _ | assumption | exact ⟨by omega, by omega⟩) (fun c_65 => ?_) (fun c_65 => ?_)
              ·
                refine V_iload2 G dX7_asked_73 ?_
                refine V_istore2 G dX7_asked_74 rfl ?_
                refine V_iinc3 G dX7_asked_75 rfl ?_
                refine V_goto G dX7_asked_78 (tgt := 6) (by decide) ?_
                first | exact absurd rfl c_65 | exact absurd rfl c_54 | exact absurd c_54 (by decide) | exact absurd c_65 (by decide) | exact ih (k + 1) _ _ _ _ (by omega) (by omega) (by omega) (by omega) (by rw [← hs, askF]; first | rw [if_pos (by omega)] | rw [if_neg (by omega)])
              ·
                refine V_iload4 G dX7_asked_68 ?_
                refine V_goto G dX7_asked_70 (tgt := 74) (by decide) ?_
                refine V_istore2 G dX7_asked_74 rfl ?_
                refine V_iinc3 G dX7_asked_75 rfl ?_
                refine V_goto G dX7_asked_78 (tgt := 6) (by decide) ?_
                first | exact absurd rfl c_65 | exact absurd rfl c_54 | exact absurd c_54 (by decide) | exact absurd c_65 (by decide) | exact ih (k + 1) _ _ _ _ (by omega) (by omega) (by omega) (by omega) (by rw [← hs, askF]; first | rw [if_pos (by omega)] | rw [if_neg (by omega)])
          ·
            refine V_iload4 G dX7_asked_39 ?_
            refine V_iload2 G dX7_asked_41 ?_
            refine V_icmpge G dX7_asked_42 (tgt := 49) (by decide) (by first | exact r _ _ | assumption | exact ⟨by omega, by omega⟩) (by first | exact r _ _ | assumption | exact ⟨by omega, by omega⟩) (fun c_42 => ?_) (fun c_42 => ?_)
            ·
              refine V_iconst G dX7_asked_49 ?_
              refine V_istore5 G dX7_asked_50 rfl ?_
              refine V_iload5 G dX7_asked_52 ?_
              refine V_ifeq G dX7_asked_54 (tgt := 61) (by decide) (by first | exact r _ _ | assumption | exact ⟨by omega, by omega⟩) (fun c_54 => ?_) (fun c_54 => ?_)
              ·
                refine V_iload1 G dX7_asked_61 ?_
                refine V_istore1 G dX7_asked_62 rfl ?_
                refine V_iload5 G dX7_asked_63 ?_
                refine V_ifeq G dX7_asked_65 (tgt := 73) (by decide) (by first | exact r _ _ | assumption | exact ⟨by omega, by omega⟩) (fun c_65 => ?_) (fun c_65 => ?_)
                ·
                  refine V_iload2 G dX7_asked_73 ?_
                  refine V_istore2 G dX7_asked_74 rfl ?_
                  refine V_iinc3 G dX7_asked_75 rfl ?_
                  refine V_goto G dX7_asked_78 (tgt := 6) (by decide) ?_
                  first | exact absurd rfl c_65 | exact absurd rfl c_54 | exact absurd c_54 (by decide) | exact absurd c_65 (by decide) | exact ih (k + 1) _ _ _ _ (by omega) (by omega) (by omega) (by omega) (by rw [← hs, askF]; first | rw [if_pos (by omega)] | rw [if_neg (by omega)])
                ·
                  refine V_iload4 G dX7_asked_68 ?_
                  refine V_goto G dX7_asked_70 (tgt := 74) (by decide) ?_
                  refine V_istore2 G dX7_asked_74 rfl ?_
                  refine V_iinc3 G dX7_asked_75 rfl ?_
                  refine V_goto G dX7_asked_78 (tgt := 6) (by decide) ?_
                  first | exact absurd rfl c_65 | exact absurd rfl c_54 | exact absurd c_54 (by decide) | exact absurd c_65 (by decide) | exact ih (k + 1) _ _ _ _ (by omega) (by omega) (by omega) (by omega) (by rw [← hs, askF]; first | rw [if_pos (by omega)] | rw [if_neg (by omega)])
              ·
                refine V_iload3 G dX7_asked_57 ?_
                refine V_goto G dX7_asked_58 (tgt := 62) (by decide) ?_
                refine V_istore1 G dX7_asked_62 rfl ?_
                refine V_iload5 G dX7_asked_63 ?_
                refine V_ifeq G dX7_asked_65 (tgt := 73) (by decide) (by first | exact r _ _ | assumption | exact ⟨by omega, by omega⟩) (fun c_65 => ?_) (fun c_65 => ?_)
                ·
                  refine V_iload2 G dX7_asked_73 ?_
                  refine V_istore2 G dX7_asked_74 rfl ?_
                  refine V_iinc3 G dX7_asked_75 rfl ?_
                  refine V_goto G dX7_asked_78 (tgt := 6) (by decide) ?_
                  first | exact absurd rfl c_65 | exact absurd rfl c_54 | exact absurd c_54 (by decide) | exact absurd c_65 (by decide) | exact ih (k + 1) _ _ _ _ (by omega) (by omega) (by omega) (by omega) (by rw [← hs, askF]; first | rw [if_pos (by omega)] | rw [if_neg (by omega)])
                ·
                  refine V_iload4 G dX7_asked_68 ?_
                  refine V_goto G dX7_asked_70 (tgt := 74) (by decide) ?_
                  refine V_istore2 G dX7_asked_74 rfl ?_
                  refine V_iinc3 G dX7_asked_75 rfl ?_
                  refine V_goto G dX7_asked_78 (tgt := 6) (by decide) ?_
                  first | exact absurd rfl c_65 | exact absurd rfl c_54 | exact absurd c_54 (by decide) | exact absurd c_65 (by decide) | exact ih (k + 1) _ _ _ _ (by omega) (by omega) (by omega) (by omega) (by rw [← hs, askF]; first | rw [if_pos (by omega)] | rw [if_neg (by omega)])
            ·
              refine V_iconst G dX7_asked_45 ?_
              refine V_goto G dX7_asked_46 (tgt := 50) (by decide) ?_
              refine V_istore5 G dX7_asked_50 rfl ?_
              refine V_iload5 G dX7_asked_52 ?_
              refine V_ifeq G dX7_asked_54 (tgt := 61) (by decide) (by first | exact r _ _ | assumption | exact ⟨by omega, by omega⟩) (fun c_54 => ?_) (fun c_54 => ?_)
              ·
                refine V_iload1 G dX7_asked_61 ?_
                refine V_istore1 G dX7_asked_62 rfl ?_
                refine V_iload5 G dX7_asked_63 ?_
                refine V_ifeq G dX7_asked_65 (tgt := 73) (by decide) (by first | exact r _ _ | assumption | exact ⟨by omega, by omega⟩) (fun c_65 => ?_) (fun c_65 => ?_)
                ·
                  refine V_iload2 G dX7_asked_73 ?_
                  refine V_istore2 G dX7_asked_74 rfl ?_
                  refine V_iinc3 G dX7_asked_75 rfl ?_
                  refine V_goto G dX7_asked_78 (tgt := 6) (by decide) ?_
                  first | exact absurd rfl c_65 | exact absurd rfl c_54 | exact absurd c_54 (by decide) | exact absurd c_65 (by decide) | exact ih (k + 1) _ _ _ _ (by omega) (by omega) (by omega) (by omega) (by rw [← hs, askF]; first | rw [if_pos (by omega)] | rw [if_neg (by omega)])
                ·
                  refine V_iload4 G dX7_asked_68 ?_
                  refine V_goto G dX7_asked_70 (tgt := 74) (by decide) ?_
                  refine V_istore2 G dX7_asked_74 rfl ?_
                  refine V_iinc3 G dX7_asked_75 rfl ?_
                  refine V_goto G dX7_asked_78 (tgt := 6) (by decide) ?_
                  first | exact absurd rfl c_65 | exact absurd rfl c_54 | exact absurd c_54 (by decide) | exact absurd c_65 (by decide) | exact ih (k + 1) _ _ _ _ (by omega) (by omega) (by omega) (by omega) (by rw [← hs, askF]; first | rw [if_pos (by omega)] | rw [if_neg (by omega)])
              ·
                refine V_iload3 G dX7_asked_57 ?_
                refine V_goto G dX7_asked_58 (tgt := 62) (by decide) ?_
                refine V_istore1 G dX7_asked_62 rfl ?_
                refine V_iload5 G dX7_asked_63 ?_
                refine V_ifeq G dX7_asked_65 (tgt := 73) (by decide) (by first | exact r _ _ | assumption | exact ⟨by omega, by omega⟩) (fun c_65 => ?_) (fun c_65 => ?_)
                ·
                  refine V_iload2 G dX7_asked_73 ?_
                  refine V_istore2 G dX7_asked_74 rfl ?_
                  refine V_iinc3 G dX7_asked_75 rfl ?_
                  refine V_goto G dX7_asked_78 (tgt := 6) (by decide) ?_
                  first | exact absurd rfl c_65 | exact absurd rfl c_54 | exact absurd c_54 (by decide) | exact absurd c_65 (by decide) | exact ih (k + 1) _ _ _ _ (by omega) (by omega) (by omega) (by omega) (by rw [← hs, askF]; first | rw [if_pos (by omega)] | rw [if_neg (by omega)])
                ·
                  refine V_iload4 G dX7_asked_68 ?_
                  refine V_goto G dX7_asked_70 (tgt := 74) (by decide) ?_
                  refine V_istore2 G dX7_asked_74 rfl ?_
                  refine V_iinc3 G dX7_asked_75 rfl ?_
                  refine V_goto G dX7_asked_78 (tgt := 6) (by decide) ?_
                  first | exact absurd rfl c_65 | exact absurd rfl c_54 | exact absurd c_54 (by decide) | exact absurd c_65 (by decide) | exact ih (k + 1) _ _ _ _ (by omega) (by omega) (by omega) (by omega) (by rw [← hs, askF]; first | rw [if_pos (by omega)] | rw [if_neg (by omega)])
  refine V_iconst G dX7_asked_0 ?_
  refine V_istore1 G dX7_asked_1 rfl ?_
  refine V_iconst G dX7_asked_2 ?_
  refine V_istore2 G dX7_asked_3 rfl ?_
  refine V_iconst G dX7_asked_4 ?_
  refine V_istore3 G dX7_asked_5 rfl ?_
  exact lp (nS g.1).toNat 0 (-1) 0 _ _ (by omega) (by omega) (by omega) (by omega) rfl

set_option maxRecDepth 100000 in
set_option maxHeartbeats 4000000 in
theorem c_X7_question {l : Launch} {d : Nat} {h : Hp} (r : Rg h) {g : Sg} (T : RdsOk) (R : RepM g h) (I : okS g.1) (hd : 7 ≤ d := by omega) : CP l d 0 0 yX7_question cX7_question 1 (Option.some Jvm.ClassFile.FieldType.int) [.ref 77] h (pI fun x h1 => aft (opAsk g) x h h1) := by
  refine CP.ofV (L := [some (.ref 77)]) RX7 (by decide +kernel) rfl (Nat.le_of_ble_eq_true rfl) rfl (fun X hX G E => ?_)
  subst hX
  have r0 : Rg (sI h 77 0 0) := r.sI ⟨by decide, by decide⟩
  have R0 : RepM g (sI h 77 0 0) := R.thr
  have e0 : eqx SM h (sI h 77 0 0) := eqx.rf.st rfl
  have hn := R0.n
  have hn0 := I.1
  refine V_aload0 G dX7_question_0 ?_
  refine V_iconst G dX7_question_1 ?_
  refine V_putI (jz := 0) G fw_X7_68 dX7_question_2 (by first | decide | assumption) (by first | rfl | assumption) rfl rfl ?_
  refine V_aload0 G dX7_question_5 ?_
  refine V_cV0v (d1 := 6) G m_X7_187 dX7_question_6 (by first | decide | assumption) (by first | rfl | assumption) (c_lays r0 T R0 hn0 I.2.1) (by omega) (by omega) (by omega) (Nat.le_of_ble_eq_true rfl) (fun h_6 hp_6 => ?_)
  obtain ⟨v1, v2, v3, v4⟩ := hp_6
  have e1 := e0.tr (Sl_SM v1)
  obtain ⟨w1, w2, w3⟩ := lfS_at T I v3
  have hA42 := AS_le T I
  have r := v2
  have v77 : hI h_6 77 0 = 0 := (v1.1 77 0 rfl).trans (by simp [hI_sI])
  have hn8 := v4.n
  refine V_aload0 G dX7_question_9 ?_
  refine V_cV0i (d1 := 4) G m_X7_268 dX7_question_10 (by first | decide | assumption) (by first | rfl | assumption) (c_X7_asked v2 T v4 I v3) (by omega) (by omega) (by omega) (Nat.le_of_ble_eq_true rfl) (fun x_10 h_10 hp_10 => ?_)
  rw [hp_10.1, hp_10.2]
  exact V_reti E dX7_question_13 rfl rfl ⟨_, rfl, ⟨e1, v2, v77, v4, fun _ => rfl⟩⟩

noncomputable def wwS (c : Cs) (ms : Int) : Int := sumF (fun k => if (if ms = 0 then hdsS c k = 1 else 1 < hdsS c k) then 1 else 0) (nS c).toNat 0

set_option maxRecDepth 100000 in
set_option maxHeartbeats 4000000 in
theorem c_X7_wordsWith {l : Launch} {d : Nat} {h : Hp} (r : Rg h) {g : Sg} (T : RdsOk) (R : RepM g h) (I : okS g.1) (L : LaidM g.1 h) {ms : Int} (hm : ms = 0 ∨ ms = 1) (hd : 4 ≤ d := by omega) : CP l d 0 0 yX7_wordsWith cX7_wordsWith 5 (Option.some Jvm.ClassFile.FieldType.int) [.ref 77, iv ms] h (pI fun x h1 => x = wwS g.1 ms ∧ h1 = h) := by
  refine CP.ofV (L := [some (.ref 77), some (.int (Int32.ofInt ms)), none, none, none]) RX7 (by decide +kernel) rfl (Nat.le_of_ble_eq_true rfl) rfl (fun X hX G E => ?_)
  subst hX
  have hA := AS_le T I
  have hn := R.n
  have hn0 := I.1
  have lp : ∀ (m : Nat) (k : Int) (acc : Int) (a4 : Option Value), k + m = nS g.1 → 0 ≤ k → acc + sumF (fun k => if (if ms = 0 then hdsS g.1 k = 1 else 1 < hdsS g.1 k) then 1 else 0) m k = wwS g.1 ms → V X 0 0 4 [some (.ref 77), some (.int (Int32.ofInt ms)), some (.int (Int32.ofInt acc)), some (.int (Int32.ofInt k)), a4] [] h := by
    intro m
    induction m with
    | zero =>
      intro k acc a4 hm_ hk0 hs
      refine V_iload3 G dX7_wordsWith_4 ?_
      refine V_aload0 G dX7_wordsWith_5 ?_
      refine V_getR G fl_X7_7 dX7_wordsWith_6 (by first | decide | assumption) (by first | rfl | assumption) rfl (by first | rfl | assumption) ?_
      refine V_iconst G dX7_wordsWith_9 ?_
      refine V_ialde G dX7_wordsWith_10 (by first | decide | assumption) (by first | rfl | assumption) (by decide) ⟨by omega, by omega⟩ (by first | (simp only [hI_sI, hI_sL, hL_sI, hL_sL, false_and, true_and, and_false, and_true, and_self, if_false, if_true, hn]; first | done | rfl) | rfl) ?_
      refine V_icmpge G dX7_wordsWith_11 (tgt := 56) (by decide) (by first | exact r _ _ | assumption | exact ⟨by omega, by omega⟩) (by first | exact r _ _ | assumption | exact ⟨by omega, by omega⟩) (fun c_11 => ?_) (fun c_11 => ?_)
      ·
        refine V_iload2 G dX7_wordsWith_56 ?_
        exact V_reti E dX7_wordsWith_57 rfl rfl ⟨_, rfl, ⟨by rw [← hs]; simp [sumF], rfl⟩⟩
      · omega
    | succ m ih =>
      intro k acc a4 hm_ hk0 hs
      refine V_iload3 G dX7_wordsWith_4 ?_
      refine V_aload0 G dX7_wordsWith_5 ?_
      refine V_getR G fl_X7_7 dX7_wordsWith_6 (by first | decide | assumption) (by first | rfl | assumption) rfl (by first | rfl | assumption) ?_
      refine V_iconst G dX7_wordsWith_9 ?_
      refine V_ialde G dX7_wordsWith_10 (by first | decide | assumption) (by first | rfl | assumption) (by decide) ⟨by omega, by omega⟩ (by first | (simp only [hI_sI, hI_sL, hL_sI, hL_sL, false_and, true_and, and_false, and_true, and_self, if_false, if_true, hn]; first | done | rfl) | rfl) ?_
      refine V_icmpge G dX7_wordsWith_11 (tgt := 56) (by decide) (by first | exact r _ _ | assumption | exact ⟨by omega, by omega⟩) (by first | exact r _ _ | assumption | exact ⟨by omega, by omega⟩) (fun c_11 => ?_) (fun c_11 => ?_)
      · omega
      ·
        refine V_aload0 G dX7_wordsWith_14 ?_
        refine V_iload3 G dX7_wordsWith_15 ?_
        refine V_iconst G dX7_wordsWith_16 ?_
        refine V_cV2i (d1 := 3) G m_X7_229 dX7_wordsWith_17 (by first | decide | assumption) (by first | rfl | assumption) (c_heads r T R I L (w := k) (ms := 0) ⟨hk0, by omega⟩ (Or.inl rfl)) (by omega) (by omega) (by omega) (Nat.le_of_ble_eq_true rfl) (fun x_17 h_17 hp_17 => ?_)
        rw [show x_17 = hdsS g.1 k from hp_17.1, hp_17.2]
        have hhr := hdsS_r (c := g.1) k hn0.2
        refine V_istore4 G dX7_wordsWith_20 rfl ?_
        refine V_iload2 G dX7_wordsWith_22 ?_
        refine V_iload1 G dX7_wordsWith_23 ?_
        refine V_ifeq G dX7_wordsWith_24 (tgt := 33) (by decide) (by first | exact r _ _ | assumption | exact ⟨by omega, by omega⟩) (fun c_24 => ?_) (fun c_24 => ?_)
        ·
          refine V_iload1 G dX7_wordsWith_33 ?_
          refine V_ifne G dX7_wordsWith_34 (tgt := 47) (by decide) (by first | exact r _ _ | assumption | exact ⟨by omega, by omega⟩) (fun c_34 => ?_) (fun c_34 => ?_)
          ·
            refine V_iconst G dX7_wordsWith_47 ?_
            refine V_iadd G dX7_wordsWith_48 ?_
            refine V_istore2 G dX7_wordsWith_49 rfl ?_
            refine V_iinc3 G dX7_wordsWith_50 rfl ?_
            refine V_goto G dX7_wordsWith_53 (tgt := 4) (by decide) ?_
            exact ih (k + 1) _ _ (by omega) (by omega) (by
              rw [← hs]
              conv => rhs; rw [sumF]
              rcases hm with e | e
              all_goals (simp only [e, if_true, if_false, show ¬ (1 : Int) = 0 by decide])
              all_goals first
                | (rw [if_pos (by omega)]; omega)
                | (rw [if_neg (by omega)]; omega)
                | omega)
          ·
            refine V_iload4 G dX7_wordsWith_37 ?_
            refine V_iconst G dX7_wordsWith_39 ?_
            refine V_icmpne G dX7_wordsWith_40 (tgt := 47) (by decide) (by first | exact r _ _ | assumption | exact ⟨by omega, by omega⟩) (by first | exact r _ _ | assumption | exact ⟨by omega, by omega⟩) (fun c_40 => ?_) (fun c_40 => ?_)
            ·
              refine V_iconst G dX7_wordsWith_47 ?_
              refine V_iadd G dX7_wordsWith_48 ?_
              refine V_istore2 G dX7_wordsWith_49 rfl ?_
              refine V_iinc3 G dX7_wordsWith_50 rfl ?_
              refine V_goto G dX7_wordsWith_53 (tgt := 4) (by decide) ?_
              exact ih (k + 1) _ _ (by omega) (by omega) (by
                rw [← hs]
                conv => rhs; rw [sumF]
                rcases hm with e | e
                all_goals (simp only [e, if_true, if_false, show ¬ (1 : Int) = 0 by decide])
                all_goals first
                  | (rw [if_pos (by omega)]; omega)
                  | (rw [if_neg (by omega)]; omega)
                  | omega)
            ·
              refine V_iconst G dX7_wordsWith_43 ?_
              refine V_goto G dX7_wordsWith_44 (tgt := 48) (by decide) ?_
              refine V_iadd G dX7_wordsWith_48 ?_
              refine V_istore2 G dX7_wordsWith_49 rfl ?_
              refine V_iinc3 G dX7_wordsWith_50 rfl ?_
              refine V_goto G dX7_wordsWith_53 (tgt := 4) (by decide) ?_
              exact ih (k + 1) _ _ (by omega) (by omega) (by
                rw [← hs]
                conv => rhs; rw [sumF]
                rcases hm with e | e
                all_goals (simp only [e, if_true, if_false, show ¬ (1 : Int) = 0 by decide])
                all_goals first
                  | (rw [if_pos (by omega)]; omega)
                  | (rw [if_neg (by omega)]; omega)
                  | omega)
        ·
          refine V_iload4 G dX7_wordsWith_27 ?_
          refine V_iconst G dX7_wordsWith_29 ?_
          refine V_icmpgt G dX7_wordsWith_30 (tgt := 43) (by decide) (by first | exact r _ _ | assumption | exact ⟨by omega, by omega⟩) (by first | exact r _ _ | assumption | exact ⟨by omega, by omega⟩) (fun c_30 => ?_) (fun c_30 => ?_)
          ·
            refine V_iconst G dX7_wordsWith_43 ?_
            refine V_goto G dX7_wordsWith_44 (tgt := 48) (by decide) ?_
            refine V_iadd G dX7_wordsWith_48 ?_
            refine V_istore2 G dX7_wordsWith_49 rfl ?_
            refine V_iinc3 G dX7_wordsWith_50 rfl ?_
            refine V_goto G dX7_wordsWith_53 (tgt := 4) (by decide) ?_
            exact ih (k + 1) _ _ (by omega) (by omega) (by
              rw [← hs]
              conv => rhs; rw [sumF]
              rcases hm with e | e
              all_goals (simp only [e, if_true, if_false, show ¬ (1 : Int) = 0 by decide])
              all_goals first
                | (rw [if_pos (by omega)]; omega)
                | (rw [if_neg (by omega)]; omega)
                | omega)
          ·
            refine V_iload1 G dX7_wordsWith_33 ?_
            refine V_ifne G dX7_wordsWith_34 (tgt := 47) (by decide) (by first | exact r _ _ | assumption | exact ⟨by omega, by omega⟩) (fun c_34 => ?_) (fun c_34 => ?_)
            ·
              refine V_iconst G dX7_wordsWith_47 ?_
              refine V_iadd G dX7_wordsWith_48 ?_
              refine V_istore2 G dX7_wordsWith_49 rfl ?_
              refine V_iinc3 G dX7_wordsWith_50 rfl ?_
              refine V_goto G dX7_wordsWith_53 (tgt := 4) (by decide) ?_
              exact ih (k + 1) _ _ (by omega) (by omega) (by
                rw [← hs]
                conv => rhs; rw [sumF]
                rcases hm with e | e
                all_goals (simp only [e, if_true, if_false, show ¬ (1 : Int) = 0 by decide])
                all_goals first
                  | (rw [if_pos (by omega)]; omega)
                  | (rw [if_neg (by omega)]; omega)
                  | omega)
            ·
              refine V_iload4 G dX7_wordsWith_37 ?_
              refine V_iconst G dX7_wordsWith_39 ?_
              refine V_icmpne G dX7_wordsWith_40 (tgt := 47) (by decide) (by first | exact r _ _ | assumption | exact ⟨by omega, by omega⟩) (by first | exact r _ _ | assumption | exact ⟨by omega, by omega⟩) (fun c_40 => ?_) (fun c_40 => ?_)
              ·
                refine V_iconst G dX7_wordsWith_47 ?_
                refine V_iadd G dX7_wordsWith_48 ?_
                refine V_istore2 G dX7_wordsWith_49 rfl ?_
                refine V_iinc3 G dX7_wordsWith_50 rfl ?_
                refine V_goto G dX7_wordsWith_53 (tgt := 4) (by decide) ?_
                exact ih (k + 1) _ _ (by omega) (by omega) (by
                  rw [← hs]
                  conv => rhs; rw [sumF]
                  rcases hm with e | e
                  all_goals (simp only [e, if_true, if_false, show ¬ (1 : Int) = 0 by decide])
                  all_goals first
                    | (rw [if_pos (by omega)]; omega)
                    | (rw [if_neg (by omega)]; omega)
                    | omega)
              ·
                refine V_iconst G dX7_wordsWith_43 ?_
                refine V_goto G dX7_wordsWith_44 (tgt := 48) (by decide) ?_
                refine V_iadd G dX7_wordsWith_48 ?_
                refine V_istore2 G dX7_wordsWith_49 rfl ?_
                refine V_iinc3 G dX7_wordsWith_50 rfl ?_
                refine V_goto G dX7_wordsWith_53 (tgt := 4) (by decide) ?_
                exact ih (k + 1) _ _ (by omega) (by omega) (by
                  rw [← hs]
                  conv => rhs; rw [sumF]
                  rcases hm with e | e
                  all_goals (simp only [e, if_true, if_false, show ¬ (1 : Int) = 0 by decide])
                  all_goals first
                    | (rw [if_pos (by omega)]; omega)
                    | (rw [if_neg (by omega)]; omega)
                    | omega)
  refine V_iconst G dX7_wordsWith_0 ?_
  refine V_istore2 G dX7_wordsWith_1 rfl ?_
  refine V_iconst G dX7_wordsWith_2 ?_
  refine V_istore3 G dX7_wordsWith_3 rfl ?_
  exact lp (nS g.1).toNat 0 0 _ (by omega) (by omega) (by simp [wwS])

end M18
