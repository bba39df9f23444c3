section C12

theorem orI_z {a : Int} (h : inr a) : orI a 0 = a := by
  unfold orI
  have e : Int32.ofInt a ||| Int32.ofInt 0 = Int32.ofInt a := by
    apply Int32.toBitVec_inj.mp
    rw [Int32.toBitVec_or]
    show _ ||| (0 : BitVec 32) = _
    simp
  rw [e]
  exact Int32.toInt_ofInt_of_le h.1 (by have := h.2; omega)
theorem push_kd {c : Cs} {k w : Int} (hn : 0 ≤ nS c ∧ nS c < 12) (h0 : 0 ≤ w) (h1 : w ≤ nS c) : kdS (pushS c k) w = if w = nS c then k else kdS c w := by
  unfold kdS pushS uC
  by_cases e : w = nS c
  · rw [if_pos (by omega), if_pos e]
  · rw [if_neg (by omega), if_neg (by omega), if_neg e]
def SK (q : Nat) (_ : Int) : Bool := decide (38 ≤ q ∧ q ≤ 44)
def LK (q : Nat) : Bool := q == 42

set_option maxRecDepth 100000 in
set_option maxHeartbeats 800000 in
theorem c_X6_kindsToAdd {l : Launch} {d : Nat} {h : Hp} (r : Rg h) {c : Cs} (I : okS c) (S : StC h 1 c) (hd : 22 ≤ d := by omega) : CP l d 0 0 yX6_kindsToAdd cX6_kindsToAdd 3 (Option.some Jvm.ClassFile.FieldType.int) [.ref 0] h (pI fun x h1 => x = addS c ∧ eqw SK LK h h1 ∧ Rg h1) := by
  refine CP.ofV (L := [some (.ref 0), none, none]) RX6 (by decide +kernel) rfl (Nat.le_of_ble_eq_true rfl) rfl (fun X hX G E => ?_)
  subst hX
  have S0 := S
  obtain ⟨hn, hdr, hkd, hfx⟩ := S
  have hn0 := I.1
  have hfr := I.2.2.1
  have lpw : nS c < 12 → V X 0 0 14 [some (.ref 0), none, none] [] h := by
    intro hlt
    have lp : ∀ (m : Nat) (k : Int) (g : Hp) (a : Int), k + m = 7 → 0 ≤ k → Rg g → eqw SK LK h g → 0 ≤ a ∧ a < 2 ^ 7 → addF (addP c) m k a = addF (addP c) 7 0 0 → V X 0 0 18 [some (.ref 0), some (.int (Int32.ofInt a)), some (.int (Int32.ofInt k))] [] g := by
      intro m
      induction m with
      | zero =>
        intro k g a hm_ hk0 r1 eg ha hs
        refine V_iload2 G dX6_kindsToAdd_18 ?_
        refine V_bipush G dX6_kindsToAdd_19 (by decide) ?_
        refine V_icmpge G dX6_kindsToAdd_21 (tgt := 76) (by decide) (by first | exact r _ _ | assumption | exact ⟨by omega, by omega⟩) (by first | exact r _ _ | assumption | exact ⟨by omega, by omega⟩) (fun c_21 => ?_) (fun c_21 => ?_)
        ·
          refine V_iload1 G dX6_kindsToAdd_76 ?_
          exact V_reti E dX6_kindsToAdd_77 rfl rfl ⟨_, rfl, ⟨by unfold addS; rw [if_neg (by omega), ← hs]; rfl, eg, r1⟩⟩
        · omega
      | succ m ih =>
        intro k g a hm_ hk0 r1 eg ha hs
        refine V_iload2 G dX6_kindsToAdd_18 ?_
        refine V_bipush G dX6_kindsToAdd_19 (by decide) ?_
        refine V_icmpge G dX6_kindsToAdd_21 (tgt := 76) (by decide) (by first | exact r _ _ | assumption | exact ⟨by omega, by omega⟩) (by first | exact r _ _ | assumption | exact ⟨by omega, by omega⟩) (fun c_21 => ?_) (fun c_21 => ?_)
        · omega
        ·
          refine V_aload0 G dX6_kindsToAdd_24 ?_
          refine V_getR G fl_X6_48 dX6_kindsToAdd_25 (by first | decide | assumption) (by first | rfl | assumption) rfl (by first | rfl | assumption) ?_
          refine V_aload0 G dX6_kindsToAdd_28 ?_
          refine V_getR G fl_X6_12 dX6_kindsToAdd_29 (by first | decide | assumption) (by first | rfl | assumption) rfl (by first | rfl | assumption) ?_
          refine V_cV1v (d1 := 13) G m_X6_350 dX6_kindsToAdd_32 (by first | decide | assumption) (by first | rfl | assumption) (c_X4_take r1 isSt_all.2.1 isSt_all.1 (by omega) (c := c) (S0.eq (fun z j q => eg.1 z j (by simp [SK]; omega))) hn0) (by omega) (by omega) (by omega) (Nat.le_of_ble_eq_true rfl) (fun h_32 hp_32 => ?_)
          obtain ⟨a1, a2, a3⟩ := hp_32
          refine V_aload0 G dX6_kindsToAdd_35 ?_
          refine V_getR G fl_X6_48 dX6_kindsToAdd_36 (by first | decide | assumption) (by first | rfl | assumption) rfl (by first | rfl | assumption) ?_
          refine V_iload2 G dX6_kindsToAdd_39 ?_
          refine V_cV1v (d1 := 1) G m_X6_96 dX6_kindsToAdd_40 (by first | decide | assumption) (by first | rfl | assumption) (c_X4_pushWord isSt_all.2.1 (n := nS c) a3.1 hn0 (v := k) hlt) (by omega) (by omega) (by omega) (Nat.le_of_ble_eq_true rfl) (fun h_40 hp_40 => ?_)
          subst hp_40
          have t2 : hI (sI (sI h_32 39 (nS c) k) 38 2 (nS c + 1)) 38 2 = nS c + 1 := by rw [hI_sI, if_pos ⟨rfl, rfl⟩]
          have tk : ∀ w, 0 ≤ w → w < nS c + 1 → hI (sI (sI h_32 39 (nS c) k) 38 2 (nS c + 1)) 39 w = kdS (pushS c k) w := by
            intro w w0 w1
            rw [push_kd ⟨hn0.1, hlt⟩ w0 (by omega), hI_sI, if_neg (by omega), hI_sI]
            by_cases e : w = nS c
            · rw [if_pos ⟨rfl, e⟩, if_pos e]
            · rw [if_neg (by omega), if_neg e]; exact a3.2.2.1 w w0 (by omega)
          have tr : ∀ w, 0 ≤ w → w < nS c + 1 → 0 ≤ kdS (pushS c k) w ∧ kdS (pushS c k) w ≤ 6 := by
            intro w w0 w1
            rw [push_kd ⟨hn0.1, hlt⟩ w0 (by omega)]
            split
            · omega
            · exact I.2.1 w w0 (by omega)
          obtain ⟨q1, q2, q3, q4, -⟩ := rdsH_ok (kd := kdS (pushS c k)) (n := nS c + 1) ⟨by omega, by omega⟩ tr (fun j => hI (sI (sI h_32 39 (nS c) k) 38 2 (nS c + 1)) (41 + 3) j)
          refine V_aload0 G dX6_kindsToAdd_43 ?_
          refine V_getR G fl_X6_51 dX6_kindsToAdd_44 (by first | decide | assumption) (by first | rfl | assumption) rfl (by first | rfl | assumption) ?_
          refine V_aload0 G dX6_kindsToAdd_47 ?_
          refine V_getR G fl_X6_48 dX6_kindsToAdd_48 (by first | decide | assumption) (by first | rfl | assumption) rfl (by first | rfl | assumption) ?_
          refine V_cV1v (d1 := 21) G m_X6_274 dX6_kindsToAdd_51 (by first | decide | assumption) (by first | rfl | assumption) (c_X3_tell ((a2.sI ⟨by omega, by omega⟩).sI ⟨by omega, by omega⟩) isRd_all.2 isSt_all.2.1 (by omega) (n := nS c + 1) (kd := kdS (pushS c k)) t2 ⟨by omega, by omega⟩ tk tr (by rw [q1]; exact q3)) (by omega) (by omega) (by omega) (Nat.le_of_ble_eq_true rfl) (fun h_51 hp_51 => ?_)
          obtain ⟨b1, b2, b3⟩ := hp_51
          have bw : eqw SK LK h h_51 := (eg.tr ((((a1.w (L := LK) (fun q j e => by simp [SK] at e; simp [Sst]; omega)).st rfl).st rfl).tr ⟨fun q j e => b1.1 q j (by simp [SK] at e; simp [SR]; omega), fun q j e => b1.2.1 q j (by simp [LK] at e; simp [LR]; omega), b1.2.2⟩))
          have q5 : hI h_51 41 1 = (rds (kdS (pushS c k)) (nS c + 1)).length := by rw [← q1]; exact b3.1
          refine V_aload0 G dX6_kindsToAdd_54 ?_
          refine V_getR G fl_X6_51 dX6_kindsToAdd_55 (by first | decide | assumption) (by first | rfl | assumption) rfl (by first | rfl | assumption) ?_
          refine V_cV0i (d1 := 1) G m_X6_268 dX6_kindsToAdd_58 (by first | decide | assumption) (by first | rfl | assumption) (c_X3_total isRd_all.2) (by omega) (by omega) (by omega) (Nat.le_of_ble_eq_true rfl) (fun x_58 h_58 hp_58 => ?_)
          rw [show x_58 = ((rds (kdS (pushS c k)) (nS c + 1)).length : Int) from hp_58.1.trans q5, hp_58.2]
          refine V_ifle G dX6_kindsToAdd_61 (tgt := 70) (by decide) ⟨by omega, by omega⟩ (fun c_61 => ?_) (fun c_61 => ?_)
          ·
            refine V_iinc2 G dX6_kindsToAdd_70 rfl ?_
            refine V_goto G dX6_kindsToAdd_73 (tgt := 18) (by decide) ?_
            first
            | (have c9 : addP c k := by
                 unfold addP
                 exact q4.mp (by intro z; rw [z] at c_61; simp at c_61)
               have ob := orI_bit (a := a) (k := k) (n := 7) (by omega) ha (by omega)
               exact ih (k + 1) _ _ (by omega) (by omega) b2 bw ob.1 (by
                 rw [← hs]
                 conv => rhs; rw [addF]
                 rw [if_pos c9]
                 rfl))
            | (have c9 : ¬ addP c k := by
                 intro z
                 have := q4.mpr z
                 have := List.length_pos_iff.mpr this
                 omega
               exact ih (k + 1) _ _ (by omega) (by omega) b2 bw ha (by
                 rw [← hs]
                 conv => rhs; rw [addF]
                 rw [if_neg c9, orI_z ⟨by omega, by have := ha.2; omega⟩]))
          ·
            refine V_iload1 G dX6_kindsToAdd_64 ?_
            refine V_iconst G dX6_kindsToAdd_65 ?_
            refine V_iload2 G dX6_kindsToAdd_66 ?_
            refine V_ishl_ G dX6_kindsToAdd_67 ?_
            refine V_ibit G (z := _) (rfl) ?_
            refine V_ior_ G dX6_kindsToAdd_68 ?_
            refine V_ibit G (z := _) (rfl) ?_
            refine V_istore1 G dX6_kindsToAdd_69 rfl ?_
            refine V_iinc2 G dX6_kindsToAdd_70 rfl ?_
            refine V_goto G dX6_kindsToAdd_73 (tgt := 18) (by decide) ?_
            first
            | (have c9 : addP c k := by
                 unfold addP
                 exact q4.mp (by intro z; rw [z] at c_61; simp at c_61)
               have ob := orI_bit (a := a) (k := k) (n := 7) (by omega) ha (by omega)
               exact ih (k + 1) _ _ (by omega) (by omega) b2 bw ob.1 (by
                 rw [← hs]
                 conv => rhs; rw [addF]
                 rw [if_pos c9]
                 rfl))
            | (have c9 : ¬ addP c k := by
                 intro z
                 have := q4.mpr z
                 have := List.length_pos_iff.mpr this
                 omega
               exact ih (k + 1) _ _ (by omega) (by omega) b2 bw ha (by
                 rw [← hs]
                 conv => rhs; rw [addF]
                 rw [if_neg c9, orI_z ⟨by omega, by have := ha.2; omega⟩]))
    refine V_iconst G dX6_kindsToAdd_14 ?_
    refine V_istore1 G dX6_kindsToAdd_15 rfl ?_
    refine V_iconst G dX6_kindsToAdd_16 ?_
    refine V_istore2 G dX6_kindsToAdd_17 rfl ?_
    exact lp 7 0 h 0 (by omega) (by omega) r eqw.rf (by omega) rfl
  refine V_aload0 G dX6_kindsToAdd_0 ?_
  refine V_getR G fl_X6_12 dX6_kindsToAdd_1 (by first | decide | assumption) (by first | rfl | assumption) rfl (by first | rfl | assumption) ?_
  refine V_cV0i (d1 := 1) G m_X6_82 dX6_kindsToAdd_4 (by first | decide | assumption) (by first | rfl | assumption) (c_X4_size isSt_all.1) (by omega) (by omega) (by omega) (Nat.le_of_ble_eq_true rfl) (fun x_4 h_4 hp_4 => ?_)
  rw [show x_4 = nS c from hp_4.1.trans hn, hp_4.2]
  refine V_bipush G dX6_kindsToAdd_7 (by decide) ?_
  refine V_icmplt G dX6_kindsToAdd_9 (tgt := 14) (by decide) (by first | exact r _ _ | assumption | exact ⟨by omega, by omega⟩) (by first | exact r _ _ | assumption | exact ⟨by omega, by omega⟩) (fun c_9 => ?_) (fun c_9 => ?_)
  ·
    exact lpw (by omega)
  ·
    refine V_iconst G dX6_kindsToAdd_12 ?_
    exact V_reti E dX6_kindsToAdd_13 rfl rfl ⟨_, rfl, ⟨by unfold addS; rw [if_pos (by omega)], eqw.rf, r⟩⟩

end C12
