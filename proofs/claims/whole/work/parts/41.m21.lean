section M21

theorem inr_toInt (w : Int32) : inr w.toInt := ⟨Int32.le_toInt w, by have := Int32.toInt_lt w; omega⟩
def bitI (k : Int) : Int := (Int32.ofInt 1 <<< (Int32.ofInt k &&& 31)).toInt
def orI (a b : Int) : Int := (Int32.ofInt a ||| Int32.ofInt b).toInt
noncomputable def addF (p : Int → Prop) : Nat → Int → Int → Int
  | 0, _, a => a
  | m + 1, k, a => addF p m (k + 1) (orI a (@ite _ (p k) (Classical.propDecidable _) (bitI k) 0))
def pushS (c : Cs) (k : Int) : Cs := uC (uC c 0 (nS c + 1)) (2 + nS c) k
def addP (c : Cs) (k : Int) : Prop := 0 < dp (kdS (pushS c k)) 5 0 (nS c + 1)
noncomputable def addS (c : Cs) : Int := if nS c = 12 then 0 else addF (addP c) 7 0 0
noncomputable def opNext (g : Sg) : Rs := (0, addS g.1, g)
noncomputable def shS (c : Cs) : UInt64 := if nS c = 0 then FP.dconst1 else FP.ddiv (FP.i2d (Int32.ofInt (wwS c 0))) (FP.i2d (Int32.ofInt (nS c)))
theorem sh_nan : ∀ a < 13, ∀ b < 13, b = 0 ∨ vf_n64 (FP.ddiv (FP.i2d (Int32.ofInt ((a : Nat) : Int))) (FP.i2d (Int32.ofInt ((b : Nat) : Int)))) := by unfold vf_n64; decide +kernel
theorem sh_n {a b : Int} (ha : 0 ≤ a ∧ a ≤ 12) (hb : 0 < b ∧ b ≤ 12) : vf_n64 (FP.ddiv (FP.i2d (Int32.ofInt a)) (FP.i2d (Int32.ofInt b))) := by
  have := sh_nan a.toNat (by omega) b.toNat (by omega)
  rw [show ((a.toNat : Nat) : Int) = a by omega, show ((b.toNat : Nat) : Int) = b by omega] at this
  exact this.resolve_left (by omega)
theorem sh_eq : ∀ a < 13, ∀ b < 13, b = 0 ∨ FP.dcmp (FP.ddiv (FP.i2d (Int32.ofInt ((a : Nat) : Int))) (FP.i2d (Int32.ofInt ((b : Nat) : Int)))) (FP.ddiv (FP.i2d (Int32.ofInt ((a : Nat) : Int))) (FP.i2d (Int32.ofInt ((b : Nat) : Int)))) = some .eq := by decide +kernel
theorem sh_e {a b : Int} (ha : 0 ≤ a ∧ a ≤ 12) (hb : 0 < b ∧ b ≤ 12) : FP.dcmp (FP.ddiv (FP.i2d (Int32.ofInt a)) (FP.i2d (Int32.ofInt b))) (FP.ddiv (FP.i2d (Int32.ofInt a)) (FP.i2d (Int32.ofInt b))) = some .eq := by
  have := sh_eq a.toNat (by omega) b.toNat (by omega)
  rw [show ((a.toNat : Nat) : Int) = a by omega, show ((b.toNat : Nat) : Int) = b by omega] at this
  exact this.resolve_left (by omega)
theorem wwS_r {c : Cs} (hn : nS c ≤ 12) (ms : Int) : 0 ≤ wwS c ms ∧ wwS c ms ≤ 12 := by
  have := sumF_le (f := fun k => if (if ms = 0 then hdsS c k = 1 else 1 < hdsS c k) then 1 else 0) (b := 1) (by omega) (nS c).toNat 0 (fun j => by split <;> omega)
  unfold wwS
  omega
theorem shS_e {c : Cs} (hn : 0 ≤ nS c ∧ nS c ≤ 12) : FP.dcmp (shS c) (shS c) = some .eq := by
  unfold shS
  split
  · decide +kernel
  · exact sh_e (wwS_r hn.2 0) (by omega)

set_option maxRecDepth 100000 in
set_option maxHeartbeats 1500000 in
theorem c_X7_addable {l : Launch} {d : Nat} {h : Hp} (r : Rg h) {g : Sg} (R : RepM g h) (I : okS g.1) (hd : 7 ≤ d := by omega) : CP l d 0 0 yX7_addable cX7_addable 3 (Option.some Jvm.ClassFile.FieldType.int) [.ref 77] h (pI fun x h1 => x = addS g.1 ∧ eqx SDP h h1 ∧ Rg h1) := by
  refine CP.ofV (L := [some (.ref 77), none, none]) RX7 (by decide +kernel) rfl (Nat.le_of_ble_eq_true rfl) rfl (fun X hX G E => ?_)
  subst hX
  have hn := R.n
  have hn0 := I.1
  have lp : ∀ (m : Nat) (k : Int) (f : Hp) (acc : Int) (z9 : Int), k + m = 7 → 0 ≤ k → Rg f → eqx (fun q j => q == 78 || SDP q j) h f → hI f 78 0 = nS g.1 + 1 → (∀ j : Int, j ≠ 0 → j ≠ 2 + nS g.1 → hI f 78 j = hI h 78 j) → nS g.1 < 12 → addF (addP g.1) m k acc = addF (addP g.1) 7 0 0 → V X 0 0 27 [some (.ref 77), some (.int (Int32.ofInt acc)), some (.int (Int32.ofInt k))] [] f := by
    intro m
    induction m with
    | zero =>
      intro k f acc z9 hm_ hk0 r1 ef hf0 hf hlt hs
      refine V_iload2 G dX7_addable_27 ?_
      refine V_bipush G dX7_addable_28 (by decide) ?_
      refine V_icmpge G dX7_addable_30 (tgt := 72) (by decide) (by first | exact r _ _ | assumption | exact ⟨by omega, by omega⟩) (by first | exact r _ _ | assumption | exact ⟨by omega, by omega⟩) (fun c_30 => ?_) (fun c_30 => ?_)
      ·
        refine V_aload0 G dX7_addable_72 ?_
        refine V_getR G fl_X7_7 dX7_addable_73 (by first | decide | assumption) (by first | rfl | assumption) rfl (by first | rfl | assumption) ?_
        refine V_iconst G dX7_addable_76 ?_
        refine V_aload0 G dX7_addable_77 ?_
        refine V_getR G fl_X7_7 dX7_addable_78 (by first | decide | assumption) (by first | rfl | assumption) rfl (by first | rfl | assumption) ?_
        refine V_iconst G dX7_addable_81 ?_
        refine V_ialde G dX7_addable_82 (by first | decide | assumption) (by first | rfl | assumption) (by decide) ⟨by omega, by omega⟩ (by first | (simp only [hI_sI, hI_sL, hL_sI, hL_sL, false_and, true_and, and_false, and_true, and_self, if_false, if_true, hf0]; first | done | rfl) | rfl) ?_
        refine V_iadd G dX7_addable_83 ?_
        refine V_iconst G dX7_addable_84 ?_
        refine V_isub G dX7_addable_85 ?_
        refine V_iconst G dX7_addable_86 ?_
        refine V_iast G dX7_addable_87 (by first | decide | assumption) (by first | rfl | assumption) (by decide) ⟨by omega, by omega⟩ ?_
        refine V_aload0 G dX7_addable_88 ?_
        refine V_getR G fl_X7_7 dX7_addable_89 (by first | decide | assumption) (by first | rfl | assumption) rfl (by first | rfl | assumption) ?_
        refine V_iconst G dX7_addable_92 ?_
        refine V_dup2 G dX7_addable_93 rfl rfl ?_
        refine V_ialde G dX7_addable_94 (by first | decide | assumption) (by first | rfl | assumption) (by decide) ⟨by omega, by omega⟩ (by first | (simp only [hI_sI, hI_sL, hL_sI, hL_sL, false_and, true_and, and_false, and_true, and_self, if_false, if_true, hf0]; first | done | rfl) | rfl) ?_
        refine V_iconst G dX7_addable_95 ?_
        refine V_isub G dX7_addable_96 ?_
        refine V_iast G dX7_addable_97 (by first | decide | assumption) (by first | rfl | assumption) (by decide) ⟨by omega, by omega⟩ ?_
        refine V_iload1 G dX7_addable_98 ?_
        exact V_reti E dX7_addable_99 rfl rfl ⟨_, rfl, by
            have e1 : 2 + (nS g.1 + 1) - 1 = 2 + nS g.1 := by omega
            have e2 : nS g.1 + 1 - 1 = nS g.1 := by omega
            rw [e1, if_neg (show ¬ (0 : Int) = 2 + nS g.1 by omega), e2]
            refine ⟨by rw [addS, if_neg (by omega), ← hs]; rfl, ⟨fun q j z => ?_, ef.2.1, ef.2.2⟩, (r1.sI ⟨by decide, by decide⟩).sI ⟨by omega, by omega⟩⟩
            rw [hI_sI, hI_sI]
            by_cases q1 : q = 78 ∧ j = 0
            · rw [if_pos q1, q1.1, q1.2, hn]
            · rw [if_neg q1]
              by_cases q2 : q = 78 ∧ j = 2 + nS g.1
              · rw [if_pos q2, q2.1, q2.2, R.at' (by omega) (by omega)]
                exact ((I.2.2.2.2 (nS g.1) (by omega) hlt).1).symm
              · rw [if_neg q2]
                by_cases q3 : q = 78
                · subst q3
                  exact hf j (fun y => q1 ⟨rfl, y⟩) (fun y => q2 ⟨rfl, y⟩)
                · exact ef.1 q j (by simp [q3, z])⟩
      · omega
    | succ m ih =>
      intro k f acc z9 hm_ hk0 r1 ef hf0 hf hlt hs
      refine V_iload2 G dX7_addable_27 ?_
      refine V_bipush G dX7_addable_28 (by decide) ?_
      refine V_icmpge G dX7_addable_30 (tgt := 72) (by decide) (by first | exact r _ _ | assumption | exact ⟨by omega, by omega⟩) (by first | exact r _ _ | assumption | exact ⟨by omega, by omega⟩) (fun c_30 => ?_) (fun c_30 => ?_)
      · omega
      ·
        refine V_aload0 G dX7_addable_33 ?_
        refine V_getR G fl_X7_7 dX7_addable_34 (by first | decide | assumption) (by first | rfl | assumption) rfl (by first | rfl | assumption) ?_
        refine V_iconst G dX7_addable_37 ?_
        refine V_aload0 G dX7_addable_38 ?_
        refine V_getR G fl_X7_7 dX7_addable_39 (by first | decide | assumption) (by first | rfl | assumption) rfl (by first | rfl | assumption) ?_
        refine V_iconst G dX7_addable_42 ?_
        refine V_ialde G dX7_addable_43 (by first | decide | assumption) (by first | rfl | assumption) (by decide) ⟨by omega, by omega⟩ (by first | (simp only [hI_sI, hI_sL, hL_sI, hL_sL, false_and, true_and, and_false, and_true, and_self, if_false, if_true, hf0]; first | done | rfl) | rfl) ?_
        refine V_iadd G dX7_addable_44 ?_
        refine V_iconst G dX7_addable_45 ?_
        refine V_isub G dX7_addable_46 ?_
        refine V_iload2 G dX7_addable_47 ?_
        refine V_iast G dX7_addable_48 (by first | decide | assumption) (by first | rfl | assumption) (by decide) ⟨by omega, by omega⟩ ?_
        refine V_iload1 G dX7_addable_49 ?_
        refine V_aload0 G dX7_addable_50 ?_
        have e1 : 2 + (nS g.1 + 1) - 1 = 2 + nS g.1 := by omega
        rw [e1]
        have hkk : ∀ w, 0 ≤ w → w < nS g.1 + 1 → hI (sI f 78 (2 + nS g.1) k) 78 (2 + w) = kdS (pushS g.1 k) w ∧ 0 ≤ kdS (pushS g.1 k) w ∧ kdS (pushS g.1 k) w ≤ 6 := fun w w1 w2 => by
          have e9 : kdS (pushS g.1 k) w = if w = nS g.1 then k else kdS g.1 w := by
            show uC (uC g.1 0 (nS g.1 + 1)) (2 + nS g.1) k (2 + w) = _
            unfold uC
            by_cases q : w = nS g.1
            · rw [if_pos (by omega), if_pos q]
            · rw [if_neg (by omega), if_neg (by omega), if_neg q]; rfl
          rw [e9, hI_sI]
          by_cases q : w = nS g.1
          · rw [if_pos ⟨rfl, by omega⟩, if_pos q]; omega
          · rw [if_neg (by omega), if_neg q, hf _ (by omega) (by omega)]
            exact R.hk I w w1 (by omega)
        have r2 := r1.sI (q := 78) (j := 2 + nS g.1) (v := k) ⟨by omega, by omega⟩
        refine V_cV0i (d1 := 6) G m_X7_252 dX7_addable_51 (by first | decide | assumption) (by first | rfl | assumption) (c_X7_allByParts r2 (n := nS g.1 + 1) (by rw [hI_sI, if_neg (by omega)]; exact hf0) (by omega) hkk) (by omega) (by omega) (by omega) (Nat.le_of_ble_eq_true rfl) (fun x_51 h_51 hp_51 => ?_)
        obtain ⟨v1, v2, v3⟩ := hp_51
        rw [v1]
        have dr := dp_r (kd := kdS (pushS g.1 k)) (t := 5) (i := 0) (j := nS g.1 + 1) (by decide) (by omega) (by omega)
        refine V_ifle G dX7_addable_54 (tgt := 63) (by decide) (by first | exact r _ _ | assumption | exact ⟨by omega, by omega⟩) (fun c_54 => ?_) (fun c_54 => ?_)
        ·
          refine V_iconst G dX7_addable_63 ?_
          refine V_ior_ G dX7_addable_64 ?_
          refine V_ibit G (z := _) (rfl) ?_
          refine V_istore1 G dX7_addable_65 rfl ?_
          refine V_iinc2 G dX7_addable_66 rfl ?_
          refine V_goto G dX7_addable_69 (tgt := 27) (by decide) ?_
          exact ih (k + 1) _ _ 0 (by omega) (by omega) v3 (((ef.st (by simp)).tr (v2.mono (fun q j z => by simp at z; exact z.2)))) ((v2.1 78 0 rfl).trans (by rw [hI_sI, if_neg (by omega)]; exact hf0)) (fun j j1 j2 => (v2.1 78 j rfl).trans (by rw [hI_sI, if_neg (by omega)]; exact hf j j1 j2)) hlt (by
            rw [← hs, addF]
            first
            | (rw [if_pos (show addP g.1 k by unfold addP; omega)]; rfl)
            | (rw [if_neg (show ¬ addP g.1 k by unfold addP; omega)]; rfl))
        ·
          refine V_iconst G dX7_addable_57 ?_
          refine V_iload2 G dX7_addable_58 ?_
          refine V_ishl_ G dX7_addable_59 ?_
          refine V_ibit G (z := _) (rfl) ?_
          refine V_goto G dX7_addable_60 (tgt := 64) (by decide) ?_
          refine V_ior_ G dX7_addable_64 ?_
          refine V_ibit G (z := _) (rfl) ?_
          refine V_istore1 G dX7_addable_65 rfl ?_
          refine V_iinc2 G dX7_addable_66 rfl ?_
          refine V_goto G dX7_addable_69 (tgt := 27) (by decide) ?_
          exact ih (k + 1) _ _ 0 (by omega) (by omega) v3 (((ef.st (by simp)).tr (v2.mono (fun q j z => by simp at z; exact z.2)))) ((v2.1 78 0 rfl).trans (by rw [hI_sI, if_neg (by omega)]; exact hf0)) (fun j j1 j2 => (v2.1 78 j rfl).trans (by rw [hI_sI, if_neg (by omega)]; exact hf j j1 j2)) hlt (by
            rw [← hs, addF]
            first
            | (rw [if_pos (show addP g.1 k by unfold addP; omega)]; rfl)
            | (rw [if_neg (show ¬ addP g.1 k by unfold addP; omega)]; rfl))
  refine V_aload0 G dX7_addable_0 ?_
  refine V_getR G fl_X7_7 dX7_addable_1 (by first | decide | assumption) (by first | rfl | assumption) rfl (by first | rfl | assumption) ?_
  refine V_iconst G dX7_addable_4 ?_
  refine V_ialde G dX7_addable_5 (by first | decide | assumption) (by first | rfl | assumption) (by decide) ⟨by omega, by omega⟩ (by first | (simp only [hI_sI, hI_sL, hL_sI, hL_sL, false_and, true_and, and_false, and_true, and_self, if_false, if_true, hn]; first | done | rfl) | rfl) ?_
  refine V_bipush G dX7_addable_6 (by decide) ?_
  refine V_icmpne G dX7_addable_8 (tgt := 13) (by decide) (by first | exact r _ _ | assumption | exact ⟨by omega, by omega⟩) (by first | exact r _ _ | assumption | exact ⟨by omega, by omega⟩) (fun c_8 => ?_) (fun c_8 => ?_)
  ·
    refine V_iconst G dX7_addable_13 ?_
    refine V_istore1 G dX7_addable_14 rfl ?_
    refine V_aload0 G dX7_addable_15 ?_
    refine V_getR G fl_X7_7 dX7_addable_16 (by first | decide | assumption) (by first | rfl | assumption) rfl (by first | rfl | assumption) ?_
    refine V_iconst G dX7_addable_19 ?_
    refine V_dup2 G dX7_addable_20 rfl rfl ?_
    refine V_ialde G dX7_addable_21 (by first | decide | assumption) (by first | rfl | assumption) (by decide) ⟨by omega, by omega⟩ (by first | (simp only [hI_sI, hI_sL, hL_sI, hL_sL, false_and, true_and, and_false, and_true, and_self, if_false, if_true, hn]; first | done | rfl) | rfl) ?_
    refine V_iconst G dX7_addable_22 ?_
    refine V_iadd G dX7_addable_23 ?_
    refine V_iast G dX7_addable_24 (by first | decide | assumption) (by first | rfl | assumption) (by decide) ⟨by omega, by omega⟩ ?_
    refine V_iconst G dX7_addable_25 ?_
    refine V_istore2 G dX7_addable_26 rfl ?_
    exact lp 7 0 _ 0 0 (by omega) (by omega) (r.sI ⟨by omega, by omega⟩) (eqx.rf.st (by simp)) (by simp [hI_sI]) (fun j j1 j2 => by rw [hI_sI, if_neg (by omega)]) (by omega) rfl
  ·
    refine V_iconst G dX7_addable_11 ?_
    exact V_reti E dX7_addable_12 rfl rfl ⟨_, rfl, ⟨by rw [addS, if_pos (by omega)], eqx.rf, r⟩⟩

set_option maxRecDepth 100000 in
set_option maxHeartbeats 1500000 in
theorem c_X7_next {l : Launch} {d : Nat} {h : Hp} (r : Rg h) {g : Sg} (R : RepM g h) (I : okS g.1) (hd : 8 ≤ d := by omega) : CP l d 0 0 yX7_next cX7_next 1 (Option.some Jvm.ClassFile.FieldType.int) [.ref 77] h (pI fun x h1 => aft (opNext g) x h h1) := by
  refine CP.ofV (L := [some (.ref 77)]) RX7 (by decide +kernel) rfl (Nat.le_of_ble_eq_true rfl) rfl (fun X hX G E => ?_)
  subst hX
  have r0 : Rg (sI h 77 0 0) := r.sI ⟨by decide, by decide⟩
  have R0 : RepM g (sI h 77 0 0) := R.thr
  have e0 : eqx SM h (sI h 77 0 0) := eqx.rf.st rfl
  have hn := R0.n
  have hn0 := I.1
  refine V_aload0 G dX7_next_0 ?_
  refine V_iconst G dX7_next_1 ?_
  refine V_putI (jz := 0) G fw_X7_68 dX7_next_2 (by first | decide | assumption) (by first | rfl | assumption) rfl rfl ?_
  refine V_aload0 G dX7_next_5 ?_
  refine V_cV0i (d1 := 7) G m_X7_271 dX7_next_6 (by first | decide | assumption) (by first | rfl | assumption) (c_X7_addable r0 R0 I) (by omega) (by omega) (by omega) (Nat.le_of_ble_eq_true rfl) (fun x_6 h_6 hp_6 => ?_)
  obtain ⟨v1, v2, v3⟩ := hp_6
  exact V_reti E dX7_next_9 rfl rfl ⟨_, rfl, ⟨e0.tr (SDP_SM v2), v3, (v2.1 77 0 rfl).trans (show hI (sI h 77 0 0) 77 0 = 0 by simp [hI_sI]), R0.sdp v2, fun _ => v1⟩⟩

set_option maxRecDepth 100000 in
set_option maxHeartbeats 1500000 in
theorem c_X7_sure {l : Launch} {d : Nat} {h : Hp} (r : Rg h) {g : Sg} (T : RdsOk) (R : RepM g h) (I : okS g.1) (L : LaidM g.1 h) (hd : 5 ≤ d := by omega) : CP l d 0 0 yX7_sure cX7_sure 1 (Option.some Jvm.ClassFile.FieldType.double) [.ref 77] h (pD fun x h1 => x = shS g.1 ∧ h1 = h) := by
  refine CP.ofV (L := [some (.ref 77)]) RX7 (by decide +kernel) rfl (Nat.le_of_ble_eq_true rfl) rfl (fun X hX G E => ?_)
  subst hX
  have hn := R.n
  have hn0 := I.1
  refine V_aload0 G dX7_sure_0 ?_
  refine V_getR G fl_X7_7 dX7_sure_1 (by first | decide | assumption) (by first | rfl | assumption) rfl (by first | rfl | assumption) ?_
  refine V_iconst G dX7_sure_4 ?_
  refine V_ialde G dX7_sure_5 (by first | decide | assumption) (by first | rfl | assumption) (by decide) ⟨by omega, by omega⟩ (by first | (simp only [hI_sI, hI_sL, hL_sI, hL_sL, false_and, true_and, and_false, and_true, and_self, if_false, if_true, hn]; first | done | rfl) | rfl) ?_
  refine V_ifne G dX7_sure_6 (tgt := 13) (by decide) (by first | exact r _ _ | assumption | exact ⟨by omega, by omega⟩) (fun c_6 => ?_) (fun c_6 => ?_)
  ·
    refine V_aload0 G dX7_sure_13 ?_
    refine V_iconst G dX7_sure_14 ?_
    refine V_cV1i (d1 := 4) G m_X7_258 dX7_sure_15 (by first | decide | assumption) (by first | rfl | assumption) (c_X7_wordsWith r T R I L (ms := 0) (Or.inl rfl)) (by omega) (by omega) (by omega) (Nat.le_of_ble_eq_true rfl) (fun x_15 h_15 hp_15 => ?_)
    rw [hp_15.1, hp_15.2]
    refine V_i2d_ G dX7_sure_18 ?_
    refine V_aload0 G dX7_sure_19 ?_
    refine V_getR G fl_X7_7 dX7_sure_20 (by first | decide | assumption) (by first | rfl | assumption) rfl (by first | rfl | assumption) ?_
    refine V_iconst G dX7_sure_23 ?_
    refine V_ialde G dX7_sure_24 (by first | decide | assumption) (by first | rfl | assumption) (by decide) ⟨by omega, by omega⟩ (by first | (simp only [hI_sI, hI_sL, hL_sI, hL_sL, false_and, true_and, and_false, and_true, and_self, if_false, if_true, hn]; first | done | rfl) | rfl) ?_
    refine V_i2d_ G dX7_sure_25 ?_
    refine V_ddiv G dX7_sure_26 (sh_n (wwS_r hn0.2 0) (by omega)) ?_
    exact V_retd E dX7_sure_27 rfl ⟨_, rfl, ⟨by unfold shS; first | (rw [if_pos (by omega)]; done) | (rw [if_neg (by omega)]; done), rfl⟩⟩
  ·
    refine V_dconst1 G dX7_sure_9 ?_
    refine V_goto G dX7_sure_10 (tgt := 27) (by decide) ?_
    exact V_retd E dX7_sure_27 rfl ⟨_, rfl, ⟨by unfold shS; first | (rw [if_pos (by omega)]; done) | (rw [if_neg (by omega)]; done), rfl⟩⟩

set_option maxRecDepth 100000 in
set_option maxHeartbeats 1500000 in
theorem c_X7_sureShare {l : Launch} {d : Nat} {h : Hp} (r : Rg h) {g : Sg} (T : RdsOk) (R : RepM g h) (I : okS g.1) (hd : 7 ≤ d := by omega) : CP l d 0 0 yX7_sureShare cX7_sureShare 1 (Option.some Jvm.ClassFile.FieldType.double) [.ref 77] h (pD fun x h1 => x = shS g.1 ∧ eqx SM h h1 ∧ Rg h1 ∧ RepM g h1) := by
  refine CP.ofV (L := [some (.ref 77)]) RX7 (by decide +kernel) rfl (Nat.le_of_ble_eq_true rfl) rfl (fun X hX G E => ?_)
  subst hX
  have r0 : Rg (sI h 77 0 0) := r.sI ⟨by decide, by decide⟩
  have R0 : RepM g (sI h 77 0 0) := R.thr
  have e0 : eqx SM h (sI h 77 0 0) := eqx.rf.st rfl
  have hn := R0.n
  have hn0 := I.1
  refine V_aload0 G dX7_sureShare_0 ?_
  refine V_iconst G dX7_sureShare_1 ?_
  refine V_putI (jz := 0) G fw_X7_68 dX7_sureShare_2 (by first | decide | assumption) (by first | rfl | assumption) rfl rfl ?_
  refine V_aload0 G dX7_sureShare_5 ?_
  refine V_cV0v (d1 := 6) G m_X7_187 dX7_sureShare_6 (by first | decide | assumption) (by first | rfl | assumption) (c_lays r0 T R0 hn0 I.2.1) (by omega) (by omega) (by omega) (Nat.le_of_ble_eq_true rfl) (fun h_6 hp_6 => ?_)
  obtain ⟨v1, v2, v3, v4⟩ := hp_6
  have e1 := e0.tr (Sl_SM v1)
  have r := v2
  have v77 : hI h_6 77 0 = 0 := (v1.1 77 0 rfl).trans (by simp [hI_sI])
  refine V_aload0 G dX7_sureShare_9 ?_
  refine V_cV0d (d1 := 5) G m_X7_274 dX7_sureShare_10 (by first | decide | assumption) (by first | rfl | assumption) (c_X7_sure v2 T v4 I v3) (by omega) (by omega) (by omega) (Nat.le_of_ble_eq_true rfl) (fun x_10 h_10 hp_10 => ?_)
  rw [hp_10.1, hp_10.2]
  exact V_retd E dX7_sureShare_13 rfl ⟨_, rfl, ⟨rfl, e1, v2, v4⟩⟩

set_option maxRecDepth 100000 in
set_option maxHeartbeats 1500000 in
theorem c_Jxe99ae_isNaN_b9ae7 {l : Launch} {d : Nat} {h : Hp} {x : UInt64} (hx : FP.dcmp x x = some .eq) (hd : 1 ≤ d := by omega) : CP l d 0 0 yJxe99ae_isNaN_b9ae7 cJxe99ae_isNaN_b9ae7 2 (Option.some Jvm.ClassFile.FieldType.boolean) [.double x] h (pI fun z h1 => z = 0 ∧ h1 = h) := by
  refine CP.ofV (L := [some (.double x), none]) RJxe99ae (by decide +kernel) rfl (Nat.le_of_ble_eq_true rfl) rfl (fun X hX G E => ?_)
  subst hX
  refine V_dload0 G dJxe99ae_isNaN_b9ae7_0 ?_
  refine V_dload0 G dJxe99ae_isNaN_b9ae7_1 ?_
  refine V_dcmp G dJxe99ae_isNaN_b9ae7_2 ?_
  rw [hx]
  refine V_ibit G (z := 0) (by decide) ?_
  refine V_ifeq G dJxe99ae_isNaN_b9ae7_3 (tgt := 10) (by decide) (by first | exact r _ _ | assumption | exact ⟨by omega, by omega⟩) (fun c_3 => ?_) (fun c_3 => ?_)
  ·
    refine V_iconst G dJxe99ae_isNaN_b9ae7_10 ?_
    exact V_reti E dJxe99ae_isNaN_b9ae7_11 rfl rfl ⟨_, rfl, ⟨rfl, rfl⟩⟩
  · exact absurd rfl c_3

set_option maxRecDepth 100000 in
set_option maxHeartbeats 1500000 in
theorem c_Jxe99ae_doubleToLongBits_ccdee {l : Launch} {d : Nat} {h : Hp} {x : UInt64} (hx : FP.dcmp x x = some .eq) (hd : 13 ≤ d := by omega) : CP l d 0 0 yJxe99ae_doubleToLongBits_ccdee cJxe99ae_doubleToLongBits_ccdee 2 (Option.some Jvm.ClassFile.FieldType.long) [.double x] h (pL fun z h1 => z = x.toInt64 ∧ h1 = h) := by
  refine CP.ofV (L := [some (.double x), none]) RJxe99ae (by decide +kernel) rfl (Nat.le_of_ble_eq_true rfl) rfl (fun X hX G E => ?_)
  subst hX
  refine V_dload0 G dJxe99ae_doubleToLongBits_ccdee_0 ?_
  refine V_cS1i (d1 := 1) G m_Jxe99ae_122 dJxe99ae_doubleToLongBits_ccdee_1 (c_Jxe99ae_isNaN_b9ae7 hx) (by omega) (by omega) (by omega) (Nat.le_of_ble_eq_true rfl) (fun x_1 h_1 hp_1 => ?_)
  rw [hp_1.1, hp_1.2]
  refine V_ifne G dJxe99ae_doubleToLongBits_ccdee_4 (tgt := 12) (by decide) (by first | exact r _ _ | assumption | exact ⟨by omega, by omega⟩) (fun c_4 => ?_) (fun c_4 => ?_)
  · exact absurd rfl c_4
  ·
    refine V_dload0 G dJxe99ae_doubleToLongBits_ccdee_7 ?_
    refine V_rawbits G rb_link dJxe99ae_doubleToLongBits_ccdee_8 (Nat.le_of_ble_eq_true rfl) (by omega) ?_
    exact V_retl E dJxe99ae_doubleToLongBits_ccdee_11 rfl ⟨_, rfl, ⟨rfl, rfl⟩⟩

set_option maxRecDepth 100000 in
set_option maxHeartbeats 1500000 in
theorem c_X7_hashes {l : Launch} {d : Nat} {h : Hp} {v : Int64} (hd : 1 ≤ d := by omega) : CP l d 0 0 yX7_hashes cX7_hashes 3 (Option.none : Option Jvm.ClassFile.FieldType) [.ref 77, .long v] h (pV fun h1 => h1 = sL h 77 25 (31 * hL h 77 25 + v)) := by
  refine CP.ofV (L := [some (.ref 77), some (.long v), none]) RX7 (by decide +kernel) rfl (Nat.le_of_ble_eq_true rfl) rfl (fun X hX G E => ?_)
  subst hX
  refine V_aload0 G dX7_hashes_0 ?_
  refine V_ldc2 G dX7_hashes_1 k_X7_278 ?_
  refine V_aload0 G dX7_hashes_4 ?_
  refine V_getLe (jz := 25) G fl_X7_280 dX7_hashes_5 (by first | decide | assumption) (by first | rfl | assumption) rfl rfl (by first | (simp only [hI_sI, hI_sL, hL_sI, hL_sL, false_and, true_and, and_false, and_true, and_self, if_false, if_true]; first | done | rfl) | rfl) ?_
  refine V_lmul G dX7_hashes_8 ?_
  refine V_lload1 G dX7_hashes_9 ?_
  refine V_ladd G dX7_hashes_10 ?_
  refine V_putL (jz := 25) G fw_X7_280 dX7_hashes_11 (by first | decide | assumption) (by first | rfl | assumption) rfl rfl ?_
  exact V_retv E dX7_hashes_14 rfl ⟨rfl, rfl⟩

end M21
