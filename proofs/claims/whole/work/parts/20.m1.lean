
section M1
def bI (p : Prop) [Decidable p] : Int := if p then 1 else 0
def Rg (h : Hp) : Prop := ∀ q j, inr (hI h q j)
theorem hI_sI {h : Hp} {q q2 : Nat} {j j2 v : Int} : hI (sI h q j v) q2 j2 = if q2 = q ∧ j2 = j then v else hI h q2 j2 := rfl
theorem hI_sL {h : Hp} {q : Nat} {j : Int} {v : Int64} : hI (sL h q j v) = hI h := rfl
theorem hL_sI {h : Hp} {q : Nat} {j v : Int} : hL (sI h q j v) = hL h := rfl
theorem hL_sL {h : Hp} {q q2 : Nat} {j j2 : Int} {v : Int64} : hL (sL h q j v) q2 j2 = if q2 = q ∧ j2 = j then v else hL h q2 j2 := rfl
theorem hR_sI {h : Hp} {q : Nat} {j v : Int} : hR (sI h q j v) = hR h := rfl
theorem hR_sL {h : Hp} {q : Nat} {j : Int} {v : Int64} : hR (sL h q j v) = hR h := rfl
theorem Rg.sI {h : Hp} {q : Nat} {j v : Int} (r : Rg h) (hv : inr v) : Rg (sI h q j v) := fun a b => by
  rw [hI_sI]
  split
  · exact hv
  · exact r a b
theorem Rg.sL {h : Hp} {q : Nat} {j : Int} {v : Int64} (r : Rg h) : Rg (sL h q j v) := r
section
variable {X : Cxt} {own : String} {cc : ByteArray} {d kc ks k n pc : Nat} {ls : List (Option Value)} {st : List Value} {h : Hp}
theorem bI_0 (p : Prop) [Decidable p] : bI p = 0 ↔ ¬ p := by unfold bI; split <;> simp_all
theorem bI_r (p : Prop) [Decidable p] : inr (bI p) := by unfold bI; split <;> exact ⟨by decide, by decide⟩
theorem V_ifeqB (G : Gd X own cc d kc ks) {p : Prop} {_ : Decidable p} {off : Int} {tgt : Nat} (hd : decode cc pc = .ok (.ifCond .eq off, 3)) (ht : (pc : Int) + off = (tgt : Int)) (kt : ¬ p → V X k n tgt ls st h) (kf : p → V X k n (pc + 3) ls st h) : V X k n pc ls (.int (Int32.ofInt (bI p)) :: st) h :=
  V_ifeq G hd ht (bI_r p) (fun q => kt ((bI_0 p).mp q)) (fun q => kf (Decidable.not_not.mp (fun z => q ((bI_0 p).mpr z))))
theorem V_ifneB (G : Gd X own cc d kc ks) {p : Prop} {_ : Decidable p} {off : Int} {tgt : Nat} (hd : decode cc pc = .ok (.ifCond .ne off, 3)) (ht : (pc : Int) + off = (tgt : Int)) (kt : p → V X k n tgt ls st h) (kf : ¬ p → V X k n (pc + 3) ls st h) : V X k n pc ls (.int (Int32.ofInt (bI p)) :: st) h :=
  V_ifne G hd ht (bI_r p) (fun q => kt (Decidable.not_not.mp (fun z => q ((bI_0 p).mpr z)))) (fun q => kf ((bI_0 p).mp q))
theorem V_getIe (G : Gd X own cc d kc ks) {idx ci j q : Nat} {jz v : Int} (hF : FL own idx ci j) (hd : decode cc pc = .ok (.getfield idx, 3)) (hq : q < NN) (hs : SH q = .inl ci) (hk : fkd ci j = 0) (hjz : (j : Int) = jz) (hv : hI h q jz = v) (kk : V X k n (pc + 3) ls (.int (Int32.ofInt v) :: st) h) : V X k n pc ls (.ref q :: st) h := V_getI G hF hd hq hs hk hjz (by rw [hv]; exact kk)
theorem V_getLe (G : Gd X own cc d kc ks) {idx ci j q : Nat} {jz : Int} {v : Int64} (hF : FL own idx ci j) (hd : decode cc pc = .ok (.getfield idx, 3)) (hq : q < NN) (hs : SH q = .inl ci) (hk : fkd ci j = 1) (hjz : (j : Int) = jz) (hv : hL h q jz = v) (kk : V X k n (pc + 3) ls (.long v :: st) h) : V X k n pc ls (.ref q :: st) h := V_getL G hF hd hq hs hk hjz (by rw [hv]; exact kk)
theorem V_ialde (G : Gd X own cc d kc ks) {q N : Nat} {i v : Int} (hd : decode cc pc = .ok (.iaload, 1)) (hq : q < NN) (hs : SH q = .inr (0, N)) (hN : N ≤ 5000) (hin : 0 ≤ i ∧ i < N) (hv : hI h q i = v) (kk : V X k n (pc + 1) ls (.int (Int32.ofInt v) :: st) h) : V X k n pc ls (.int (Int32.ofInt i) :: .ref q :: st) h := V_iald G hd hq hs hN hin (by rw [hv]; exact kk)
theorem V_zalde (G : Gd X own cc d kc ks) {q N : Nat} {i v : Int} (hd : decode cc pc = .ok (.baload, 1)) (hq : q < NN) (hs : SH q = .inr (2, N)) (hN : N ≤ 5000) (hin : 0 ≤ i ∧ i < N) (hv : hI h q i = v) (kk : V X k n (pc + 1) ls (.int (Int32.ofInt v) :: st) h) : V X k n pc ls (.int (Int32.ofInt i) :: .ref q :: st) h := V_zald G hd hq hs hN hin (by rw [hv]; exact kk)
theorem V_lalde (G : Gd X own cc d kc ks) {q N : Nat} {i : Int} {v : Int64} (hd : decode cc pc = .ok (.laload, 1)) (hq : q < NN) (hs : SH q = .inr (1, N)) (hN : N ≤ 5000) (hin : 0 ≤ i ∧ i < N) (hv : hL h q i = v) (kk : V X k n (pc + 1) ls (.long v :: st) h) : V X k n pc ls (.int (Int32.ofInt i) :: .ref q :: st) h := V_lald G hd hq hs hN hin (by rw [hv]; exact kk)
end
theorem bI_t {p : Prop} [Decidable p] (h : p) : 1 = bI p := (if_pos h).symm
theorem bI_f {p : Prop} [Decidable p] (h : ¬ p) : 0 = bI p := (if_neg h).symm

set_option maxRecDepth 100000 in
set_option maxHeartbeats 4000000 in
theorem c_X7_thrown {l : Launch} {d : Nat} {h : Hp}  (hd : 1 ≤ d := by omega) : CP l d 0 0 yX7_thrown cX7_thrown 1 (Option.some Jvm.ClassFile.FieldType.int) [.ref 77] h (pI fun x h1 => x = hI h 77 0 ∧ h1 = h) := by
  refine CP.ofV (L := [some (.ref 77)]) RX7 (by decide +kernel) rfl (Nat.le_of_ble_eq_true rfl) rfl (fun X hX G E => ?_)
  subst hX
  refine V_aload0 G dX7_thrown_0 ?_
  refine V_getIe (jz := 0) G fl_X7_68 dX7_thrown_1 (by first | decide | assumption) (by first | rfl | assumption) rfl rfl (by first | (simp only [hI_sI, hI_sL, hL_sI, hL_sL, false_and, true_and, and_false, and_true, and_self, if_false, if_true]; first | done | rfl) | rfl) ?_
  exact V_reti E dX7_thrown_4 rfl rfl ⟨_, rfl, ⟨rfl, rfl⟩⟩

set_option maxRecDepth 100000 in
set_option maxHeartbeats 4000000 in
theorem c_X7_in {l : Launch} {d : Nat} {h : Hp} {v a b : Int} (hv : inr v) (ha : inr a) (hb : inr b) (hd : 1 ≤ d := by omega) : CP l d 0 0 yX7_in cX7_in 3 (Option.some Jvm.ClassFile.FieldType.boolean) [iv v, iv a, iv b] h (pI fun x h1 => x = bI (a ≤ v ∧ v ≤ b) ∧ h1 = h) := by
  refine CP.ofV (L := [some (.int (Int32.ofInt v)), some (.int (Int32.ofInt a)), some (.int (Int32.ofInt b))]) RX7 (by decide +kernel) rfl (Nat.le_of_ble_eq_true rfl) rfl (fun X hX G E => ?_)
  subst hX
  refine V_iload0 G dX7_in_0 ?_
  refine V_iload1 G dX7_in_1 ?_
  refine V_icmplt G dX7_in_2 (tgt := 14) (by decide) (by first | exact r _ _ | assumption | exact ⟨by omega, by omega⟩) (by first | exact r _ _ | assumption | exact ⟨by omega, by omega⟩) (fun c_2 => ?_) (fun c_2 => ?_)
  ·
    refine V_iconst G dX7_in_14 ?_
    exact V_reti E dX7_in_15 rfl rfl ⟨_, rfl, ⟨by first | exact bI_t (by omega) | exact bI_f (by omega), rfl⟩⟩
  ·
    refine V_iload0 G dX7_in_5 ?_
    refine V_iload2 G dX7_in_6 ?_
    refine V_icmpgt G dX7_in_7 (tgt := 14) (by decide) (by first | exact r _ _ | assumption | exact ⟨by omega, by omega⟩) (by first | exact r _ _ | assumption | exact ⟨by omega, by omega⟩) (fun c_7 => ?_) (fun c_7 => ?_)
    ·
      refine V_iconst G dX7_in_14 ?_
      exact V_reti E dX7_in_15 rfl rfl ⟨_, rfl, ⟨by first | exact bI_t (by omega) | exact bI_f (by omega), rfl⟩⟩
    ·
      refine V_iconst G dX7_in_10 ?_
      refine V_goto G dX7_in_11 (tgt := 15) (by decide) ?_
      exact V_reti E dX7_in_15 rfl rfl ⟨_, rfl, ⟨by first | exact bI_t (by omega) | exact bI_f (by omega), rfl⟩⟩

set_option maxRecDepth 100000 in
set_option maxHeartbeats 4000000 in
theorem c_X7_fails {l : Launch} {d : Nat} {h : Hp} {c : Int} (hd : 1 ≤ d := by omega) : CP l d 0 0 yX7_fails cX7_fails 2 (Option.some Jvm.ClassFile.FieldType.int) [.ref 77, iv c] h (pI fun x h1 => x = 0 ∧ h1 = sI h 77 0 c) := by
  refine CP.ofV (L := [some (.ref 77), some (.int (Int32.ofInt c))]) RX7 (by decide +kernel) rfl (Nat.le_of_ble_eq_true rfl) rfl (fun X hX G E => ?_)
  subst hX
  refine V_aload0 G dX7_fails_0 ?_
  refine V_iload1 G dX7_fails_1 ?_
  refine V_putI (jz := 0) G fw_X7_68 dX7_fails_2 (by first | decide | assumption) (by first | rfl | assumption) rfl rfl ?_
  refine V_iconst G dX7_fails_5 ?_
  exact V_reti E dX7_fails_6 rfl rfl ⟨_, rfl, ⟨rfl, rfl⟩⟩

set_option maxRecDepth 100000 in
set_option maxHeartbeats 4000000 in
theorem c_X7_kind {l : Launch} {d : Nat} {h : Hp} {w : Int} (hw : 0 ≤ w ∧ w < 12) (hd : 1 ≤ d := by omega) : CP l d 0 0 yX7_kind cX7_kind 2 (Option.some Jvm.ClassFile.FieldType.int) [.ref 77, iv w] h (pI fun x h1 => x = hI h 78 (2 + w) ∧ h1 = h) := by
  refine CP.ofV (L := [some (.ref 77), some (.int (Int32.ofInt w))]) RX7 (by decide +kernel) rfl (Nat.le_of_ble_eq_true rfl) rfl (fun X hX G E => ?_)
  subst hX
  refine V_aload0 G dX7_kind_0 ?_
  refine V_getR G fl_X7_7 dX7_kind_1 (by first | decide | assumption) (by first | rfl | assumption) rfl (by first | rfl | assumption) ?_
  refine V_iconst G dX7_kind_4 ?_
  refine V_iload1 G dX7_kind_5 ?_
  refine V_iadd G dX7_kind_6 ?_
  refine V_ialde G dX7_kind_7 (by first | decide | assumption) (by first | rfl | assumption) (by decide) ⟨by omega, by omega⟩ (by first | (simp only [hI_sI, hI_sL, hL_sI, hL_sL, false_and, true_and, and_false, and_true, and_self, if_false, if_true]; first | done | rfl) | rfl) ?_
  exact V_reti E dX7_kind_8 rfl rfl ⟨_, rfl, ⟨rfl, rfl⟩⟩

set_option maxRecDepth 100000 in
set_option maxHeartbeats 4000000 in
theorem c_X7_isComplete {l : Launch} {d : Nat} {h : Hp} (r : Rg h) {w : Int} (hw : 0 ≤ w ∧ w < 16) (hd : 1 ≤ d := by omega) : CP l d 0 0 yX7_isComplete cX7_isComplete 2 (Option.some Jvm.ClassFile.FieldType.boolean) [.ref 77, iv w] h (pI fun x h1 => x = bI (hI h 83 w = 5 ∨ hI h 83 w = 2 ∨ hI h 83 w = 3) ∧ h1 = h) := by
  refine CP.ofV (L := [some (.ref 77), some (.int (Int32.ofInt w))]) RX7 (by decide +kernel) rfl (Nat.le_of_ble_eq_true rfl) rfl (fun X hX G E => ?_)
  subst hX
  refine V_aload0 G dX7_isComplete_0 ?_
  refine V_getR G fl_X7_26 dX7_isComplete_1 (by first | decide | assumption) (by first | rfl | assumption) rfl (by first | rfl | assumption) ?_
  refine V_iload1 G dX7_isComplete_4 ?_
  refine V_ialde G dX7_isComplete_5 (by first | decide | assumption) (by first | rfl | assumption) (by decide) ⟨by omega, by omega⟩ (by first | (simp only [hI_sI, hI_sL, hL_sI, hL_sL, false_and, true_and, and_false, and_true, and_self, if_false, if_true]; first | done | rfl) | rfl) ?_
  refine V_iconst G dX7_isComplete_6 ?_
  refine V_icmpeq G dX7_isComplete_7 (tgt := 30) (by decide) (by first | exact r _ _ | assumption | exact ⟨by omega, by omega⟩) (by first | exact r _ _ | assumption | exact ⟨by omega, by omega⟩) (fun c_7 => ?_) (fun c_7 => ?_)
  ·
    refine V_iconst G dX7_isComplete_30 ?_
    refine V_goto G dX7_isComplete_31 (tgt := 35) (by decide) ?_
    exact V_reti E dX7_isComplete_35 rfl rfl ⟨_, rfl, ⟨by first | exact bI_t (by omega) | exact bI_f (by omega), rfl⟩⟩
  ·
    refine V_aload0 G dX7_isComplete_10 ?_
    refine V_getR G fl_X7_26 dX7_isComplete_11 (by first | decide | assumption) (by first | rfl | assumption) rfl (by first | rfl | assumption) ?_
    refine V_iload1 G dX7_isComplete_14 ?_
    refine V_ialde G dX7_isComplete_15 (by first | decide | assumption) (by first | rfl | assumption) (by decide) ⟨by omega, by omega⟩ (by first | (simp only [hI_sI, hI_sL, hL_sI, hL_sL, false_and, true_and, and_false, and_true, and_self, if_false, if_true]; first | done | rfl) | rfl) ?_
    refine V_iconst G dX7_isComplete_16 ?_
    refine V_icmpeq G dX7_isComplete_17 (tgt := 30) (by decide) (by first | exact r _ _ | assumption | exact ⟨by omega, by omega⟩) (by first | exact r _ _ | assumption | exact ⟨by omega, by omega⟩) (fun c_17 => ?_) (fun c_17 => ?_)
    ·
      refine V_iconst G dX7_isComplete_30 ?_
      refine V_goto G dX7_isComplete_31 (tgt := 35) (by decide) ?_
      exact V_reti E dX7_isComplete_35 rfl rfl ⟨_, rfl, ⟨by first | exact bI_t (by omega) | exact bI_f (by omega), rfl⟩⟩
    ·
      refine V_aload0 G dX7_isComplete_20 ?_
      refine V_getR G fl_X7_26 dX7_isComplete_21 (by first | decide | assumption) (by first | rfl | assumption) rfl (by first | rfl | assumption) ?_
      refine V_iload1 G dX7_isComplete_24 ?_
      refine V_ialde G dX7_isComplete_25 (by first | decide | assumption) (by first | rfl | assumption) (by decide) ⟨by omega, by omega⟩ (by first | (simp only [hI_sI, hI_sL, hL_sI, hL_sL, false_and, true_and, and_false, and_true, and_self, if_false, if_true]; first | done | rfl) | rfl) ?_
      refine V_iconst G dX7_isComplete_26 ?_
      refine V_icmpne G dX7_isComplete_27 (tgt := 34) (by decide) (by first | exact r _ _ | assumption | exact ⟨by omega, by omega⟩) (by first | exact r _ _ | assumption | exact ⟨by omega, by omega⟩) (fun c_27 => ?_) (fun c_27 => ?_)
      ·
        refine V_iconst G dX7_isComplete_34 ?_
        exact V_reti E dX7_isComplete_35 rfl rfl ⟨_, rfl, ⟨by first | exact bI_t (by omega) | exact bI_f (by omega), rfl⟩⟩
      ·
        refine V_iconst G dX7_isComplete_30 ?_
        refine V_goto G dX7_isComplete_31 (tgt := 35) (by decide) ?_
        exact V_reti E dX7_isComplete_35 rfl rfl ⟨_, rfl, ⟨by first | exact bI_t (by omega) | exact bI_f (by omega), rfl⟩⟩

set_option maxRecDepth 100000 in
set_option maxHeartbeats 4000000 in
theorem c_X7_canHold {l : Launch} {d : Nat} {h : Hp} (r : Rg h) {w kd : Int} (hw : 0 ≤ w ∧ w < 16) (hk : inr kd) (hd : 1 ≤ d := by omega) : CP l d 0 0 yX7_canHold cX7_canHold 3 (Option.some Jvm.ClassFile.FieldType.boolean) [.ref 77, iv w, iv kd] h (pI fun x h1 => x = bI (if kd = 5 then hI h 83 w = 5 ∧ hI h 85 w = 1 else hI h 83 w ≠ 5 ∨ kd = 4) ∧ h1 = h) := by
  refine CP.ofV (L := [some (.ref 77), some (.int (Int32.ofInt w)), some (.int (Int32.ofInt kd))]) RX7 (by decide +kernel) rfl (Nat.le_of_ble_eq_true rfl) rfl (fun X hX G E => ?_)
  subst hX
  refine V_iload2 G dX7_canHold_0 ?_
  refine V_iconst G dX7_canHold_1 ?_
  refine V_icmpne G dX7_canHold_2 (tgt := 31) (by decide) (by first | exact r _ _ | assumption | exact ⟨by omega, by omega⟩) (by first | exact r _ _ | assumption | exact ⟨by omega, by omega⟩) (fun c_2 => ?_) (fun c_2 => ?_)
  ·
    refine V_aload0 G dX7_canHold_31 ?_
    refine V_getR G fl_X7_26 dX7_canHold_32 (by first | decide | assumption) (by first | rfl | assumption) rfl (by first | rfl | assumption) ?_
    refine V_iload1 G dX7_canHold_35 ?_
    refine V_ialde G dX7_canHold_36 (by first | decide | assumption) (by first | rfl | assumption) (by decide) ⟨by omega, by omega⟩ (by first | (simp only [hI_sI, hI_sL, hL_sI, hL_sL, false_and, true_and, and_false, and_true, and_self, if_false, if_true]; first | done | rfl) | rfl) ?_
    refine V_iconst G dX7_canHold_37 ?_
    refine V_icmpne G dX7_canHold_38 (tgt := 46) (by decide) (by first | exact r _ _ | assumption | exact ⟨by omega, by omega⟩) (by first | exact r _ _ | assumption | exact ⟨by omega, by omega⟩) (fun c_38 => ?_) (fun c_38 => ?_)
    ·
      refine V_iconst G dX7_canHold_46 ?_
      refine V_goto G dX7_canHold_47 (tgt := 51) (by decide) ?_
      exact V_reti E dX7_canHold_51 rfl rfl ⟨_, rfl, ⟨by first | exact bI_t (by split <;> omega) | exact bI_f (by split <;> omega), rfl⟩⟩
    ·
      refine V_iload2 G dX7_canHold_41 ?_
      refine V_iconst G dX7_canHold_42 ?_
      refine V_icmpne G dX7_canHold_43 (tgt := 50) (by decide) (by first | exact r _ _ | assumption | exact ⟨by omega, by omega⟩) (by first | exact r _ _ | assumption | exact ⟨by omega, by omega⟩) (fun c_43 => ?_) (fun c_43 => ?_)
      ·
        refine V_iconst G dX7_canHold_50 ?_
        exact V_reti E dX7_canHold_51 rfl rfl ⟨_, rfl, ⟨by first | exact bI_t (by split <;> omega) | exact bI_f (by split <;> omega), rfl⟩⟩
      ·
        refine V_iconst G dX7_canHold_46 ?_
        refine V_goto G dX7_canHold_47 (tgt := 51) (by decide) ?_
        exact V_reti E dX7_canHold_51 rfl rfl ⟨_, rfl, ⟨by first | exact bI_t (by split <;> omega) | exact bI_f (by split <;> omega), rfl⟩⟩
  ·
    refine V_aload0 G dX7_canHold_5 ?_
    refine V_getR G fl_X7_26 dX7_canHold_6 (by first | decide | assumption) (by first | rfl | assumption) rfl (by first | rfl | assumption) ?_
    refine V_iload1 G dX7_canHold_9 ?_
    refine V_ialde G dX7_canHold_10 (by first | decide | assumption) (by first | rfl | assumption) (by decide) ⟨by omega, by omega⟩ (by first | (simp only [hI_sI, hI_sL, hL_sI, hL_sL, false_and, true_and, and_false, and_true, and_self, if_false, if_true]; first | done | rfl) | rfl) ?_
    refine V_iconst G dX7_canHold_11 ?_
    refine V_icmpne G dX7_canHold_12 (tgt := 29) (by decide) (by first | exact r _ _ | assumption | exact ⟨by omega, by omega⟩) (by first | exact r _ _ | assumption | exact ⟨by omega, by omega⟩) (fun c_12 => ?_) (fun c_12 => ?_)
    ·
      refine V_iconst G dX7_canHold_29 ?_
      exact V_reti E dX7_canHold_30 rfl rfl ⟨_, rfl, ⟨by first | exact bI_t (by split <;> omega) | exact bI_f (by split <;> omega), rfl⟩⟩
    ·
      refine V_aload0 G dX7_canHold_15 ?_
      refine V_getR G fl_X7_32 dX7_canHold_16 (by first | decide | assumption) (by first | rfl | assumption) rfl (by first | rfl | assumption) ?_
      refine V_iload1 G dX7_canHold_19 ?_
      refine V_ialde G dX7_canHold_20 (by first | decide | assumption) (by first | rfl | assumption) (by decide) ⟨by omega, by omega⟩ (by first | (simp only [hI_sI, hI_sL, hL_sI, hL_sL, false_and, true_and, and_false, and_true, and_self, if_false, if_true]; first | done | rfl) | rfl) ?_
      refine V_iconst G dX7_canHold_21 ?_
      refine V_icmpne G dX7_canHold_22 (tgt := 29) (by decide) (by first | exact r _ _ | assumption | exact ⟨by omega, by omega⟩) (by first | exact r _ _ | assumption | exact ⟨by omega, by omega⟩) (fun c_22 => ?_) (fun c_22 => ?_)
      ·
        refine V_iconst G dX7_canHold_29 ?_
        exact V_reti E dX7_canHold_30 rfl rfl ⟨_, rfl, ⟨by first | exact bI_t (by split <;> omega) | exact bI_f (by split <;> omega), rfl⟩⟩
      ·
        refine V_iconst G dX7_canHold_25 ?_
        refine V_goto G dX7_canHold_26 (tgt := 30) (by decide) ?_
        exact V_reti E dX7_canHold_30 rfl rfl ⟨_, rfl, ⟨by first | exact bI_t (by split <;> omega) | exact bI_f (by split <;> omega), rfl⟩⟩

end M1
