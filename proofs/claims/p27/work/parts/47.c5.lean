section C5

theorem kAt_r {kd : Int → Int} {n : Int} (hk : ∀ w, 0 ≤ w → w < n → 0 ≤ kd w ∧ kd w ≤ 6) (w : Int) : 0 ≤ kAt kd n w ∧ kAt kd n w ≤ 6 := by
  unfold kAt
  split
  · next z => exact hk w z.1 z.2
  · omega

set_option maxRecDepth 100000 in
set_option maxHeartbeats 1500000 in
theorem c_X3_tell {l : Launch} {d : Nat} {h : Hp} (r : Rg h) {q p : Nat} (hq : isRd q) (hp : isSt p) (hpq : p + 2 < q ∨ q + 3 < p) {n : Int} {kd : Int → Int} (hn : hI h p 2 = n) (hn0 : 0 ≤ n ∧ n ≤ 12) (hk : ∀ w, 0 ≤ w → w < n → hI h (p + 1) w = kd w) (hk2 : ∀ w, 0 ≤ w → w < n → 0 ≤ kd w ∧ kd w ≤ 6) (h42 : (rdsH (kAt kd n) n (fun j => hI h (q + 3) j)).length ≤ 42) (hd : 21 ≤ d := by omega) : CP l d 0 0 yX3_tell cX3_tell 3 (Option.none : Option Jvm.ClassFile.FieldType) [.ref q, .ref p] h (pV fun h1 => eqw (SR q) (LR q) h h1 ∧ Rg h1 ∧ CdC h1 q n (rdsH (kAt kd n) n (fun j => hI h (q + 3) j))) := by
  refine CP.ofV (L := [some (.ref q), some (.ref p), none]) RX3 (by decide +kernel) rfl (Nat.le_of_ble_eq_true rfl) rfl (fun X hX G E => ?_)
  subst hX
  have hp_ := hp
  obtain ⟨gp0, gp1, gp2, gps0, gpf0, gpf1, gps1, gps2⟩ := hp_
  have hq_ := hq
  obtain ⟨hq0, hq1, hq2, hq3, hs0, hf0, hf2, hf3, hs1, hs2, hs3⟩ := hq
  have hk6 := kAt_r (n := n) hk2
  have hX : ∀ (g : Hp), Rg g → hI g q 4 = n → (∀ j, 0 ≤ j → j < n → hI g (q + 2) j = kd j) → (∀ j, hI g (q + 3) j = hI h (q + 3) j) → RdX g q n (kAt kd n) (fun j => hI h (q + 3) j) := fun g r1 g4 gk gh => ⟨r1, g4, hn0, fun w => by
    unfold kAt
    by_cases z : 0 ≤ w ∧ w < n
    · rw [if_pos z, if_pos z]; exact gk w z.1 z.2
    · rw [if_neg z, if_neg z], gh, hk6⟩
  have lp : ∀ (m : Nat) (k : Int) (g : Hp), k + m = n → 0 ≤ k → Rg g → eqx (fun a j => (a == q && j == 4) || a == q + 2) h g → hI g q 4 = n → (∀ j, 0 ≤ j → j < k → hI g (q + 2) j = kd j) → V X 0 0 10 [some (.ref q), some (.ref p), some (.int (Int32.ofInt k))] [] g := by
    intro m
    induction m with
    | zero =>
      intro k g hm_ hk0 r1 eg hg4 hgk
      have r := r1
      refine V_iload2 G dX3_tell_10 ?_
      refine V_aload0 G dX3_tell_11 ?_
      refine V_getIe (jz := 4) G fl_X3_26 dX3_tell_12 (by first | decide | assumption) (by first | rfl | assumption) rfl rfl (by first | (simp only [hI_sI, hI_sL, hL_sI, hL_sL, false_and, true_and, and_false, and_true, and_self, if_false, if_true, hg4]; first | done | rfl) | rfl) ?_
      refine V_icmpge G dX3_tell_15 (tgt := 44) (by decide) (by first | exact r _ _ | assumption | exact ⟨by omega, by omega⟩) (by first | exact r _ _ | assumption | exact ⟨by omega, by omega⟩) (fun c_15 => ?_) (fun c_15 => ?_)
      ·
        refine V_aload0 G dX3_tell_44 ?_
        refine V_iconst G dX3_tell_45 ?_
        refine V_putI (jz := 1) G fw_X3_15 dX3_tell_46 (by first | decide | assumption) (by first | rfl | assumption) rfl rfl ?_
        refine V_aload0 G dX3_tell_49 ?_
        have eg1 : eqw (SR q) (LR q) h (sI g q 1 0) := (eg.w (S' := SR q) (fun a j z => by simp [SR] at z ⊢; omega)).st (by simp [SR])
        have xg := hX (sI g q 1 0) (r1.sI ⟨by decide, by decide⟩) (by rw [hI_sI, if_neg (by omega)]; exact hg4) (fun j j1 j2 => by rw [hI_sI, if_neg (by omega)]; exact hgk j j1 (by omega)) (fun j => by rw [hI_sI, if_neg (by omega)]; exact eg.1 _ _ (by simp <;> omega))
        refine V_cV0i (d1 := 3) G m_X3_40 dX3_tell_50 (by first | decide | assumption) (by first | rfl | assumption) (c_X3_setForcedHeads hq_ xg) (by omega) (by omega) (by omega) (Nat.le_of_ble_eq_true rfl) (fun x_50 h_50 hp_50 => ?_)
        obtain ⟨v1, h9, v2, v3⟩ := hp_50
        have hC0 : CdC h_50 q n [] := ⟨(v1.1 q 1 (by simp)).trans (by simp [hI_sI]), fun i f hi => by simp at hi⟩
        have e2 : eqw (SR q) (LR q) h h_50 := eg1.tr (v1.w (S' := SR q) (fun a j z => by simp [SR] at z ⊢; omega))
        generalize hRR : forcF (kAt kd n) n.toNat 0 (-1) (-1) (fun j => hI h (q + 3) j) = RR at v3
        have x01 : x_50 = 0 ∨ x_50 = 1 := by
          cases RR with
          | none => exact Or.inl v3
          | some S =>
            obtain ⟨a, b⟩ := S
            obtain ⟨-, e⟩ := v3
            rw [e]
            unfold bI
            split
            · exact Or.inr rfl
            · exact Or.inl rfl
        refine V_ifeq G dX3_tell_53 (tgt := 61) (by decide) ⟨by omega, by omega⟩ (fun c_53 => ?_) (fun c_53 => ?_)
        ·
          have eL : rdsH (kAt kd n) n (fun j => hI h (q + 3) j) = [] := by
            unfold rdsH
            rw [hRR]
            cases RR with
            | none => rfl
            | some S =>
              obtain ⟨a, b⟩ := S
              obtain ⟨e1, e⟩ := v3
              exact if_neg (fun z => by rw [c_53] at e; exact absurd (e.trans (bI_t z).symm) (by decide))
          exact V_retv E dX3_tell_61 rfl ⟨rfl, by
            rw [eL]
            first
            | exact ⟨e2.tr w1, w3.1, w2⟩
            | exact ⟨e2, v2.1, hC0⟩⟩
        ·
          have hAll : ∃ a, RR = some (a, -1) ∧ h9 = a ∧ 0 < n ∧ (kAt kd n (n - 1) = 0 ∨ kAt kd n (n - 1) = 1 ∨ kAt kd n (n - 1) = 3) := by
            cases RR with
            | none => exact absurd v3 c_53
            | some S =>
              obtain ⟨a, b⟩ := S
              obtain ⟨e1, e⟩ := v3
              have e9 : 0 < n ∧ b = -1 ∧ (kAt kd n (n - 1) = 0 ∨ kAt kd n (n - 1) = 1 ∨ kAt kd n (n - 1) = 3) := Decidable.byContradiction (fun z => c_53 (by rw [e]; exact if_neg z))
              exact ⟨a, by rw [e9.2.1], e1, e9.1, e9.2.2⟩
          obtain ⟨a, e1, e2', e3, e4⟩ := hAll
          have eL : rdsH (kAt kd n) n (fun j => hI h (q + 3) j) = hangF (kAt kd n) n.toNat 0 h9 := by
            unfold rdsH
            rw [hRR, e1, e2']
            exact if_pos ⟨e3, rfl, e4⟩
          rw [eL] at h42
          refine V_aload0 G dX3_tell_56 ?_
          refine V_iconst G dX3_tell_57 ?_
          refine V_cV1v (d1 := 20) G m_X3_44 dX3_tell_58 (by first | decide | assumption) (by first | rfl | assumption) (c_hang hq_ n.toNat 0 20 h_50 h9 [] (by omega) (by omega) (by omega) v2 hC0 (by simpa using h42)) (by omega) (by omega) (by omega) (Nat.le_of_ble_eq_true rfl) (fun h_58 hp_58 => ?_)
          obtain ⟨w1, w2, h8, w3, -⟩ := hp_58
          exact V_retv E dX3_tell_61 rfl ⟨rfl, by
            rw [eL]
            first
            | exact ⟨e2.tr w1, w3.1, w2⟩
            | exact ⟨e2, v2.1, hC0⟩⟩
      · omega
    | succ m ih =>
      intro k g hm_ hk0 r1 eg hg4 hgk
      have r := r1
      refine V_iload2 G dX3_tell_10 ?_
      refine V_aload0 G dX3_tell_11 ?_
      refine V_getIe (jz := 4) G fl_X3_26 dX3_tell_12 (by first | decide | assumption) (by first | rfl | assumption) rfl rfl (by first | (simp only [hI_sI, hI_sL, hL_sI, hL_sL, false_and, true_and, and_false, and_true, and_self, if_false, if_true, hg4]; first | done | rfl) | rfl) ?_
      refine V_icmpge G dX3_tell_15 (tgt := 44) (by decide) (by first | exact r _ _ | assumption | exact ⟨by omega, by omega⟩) (by first | exact r _ _ | assumption | exact ⟨by omega, by omega⟩) (fun c_15 => ?_) (fun c_15 => ?_)
      · omega
      ·
        refine V_iload2 G dX3_tell_18 ?_
        refine V_aload0 G dX3_tell_19 ?_
        refine V_getR G fl_X3_19 dX3_tell_20 (by first | decide | assumption) (by first | rfl | assumption) rfl (by first | rfl | assumption) ?_
        refine V_alenZ G dX3_tell_23 (by first | decide | assumption) (by first | rfl | assumption) (by decide) ?_
        refine V_icmpge G dX3_tell_24 (tgt := 44) (by decide) (by first | exact r _ _ | assumption | exact ⟨by omega, by omega⟩) (by first | exact r _ _ | assumption | exact ⟨by omega, by omega⟩) (fun c_24 => ?_) (fun c_24 => ?_)
        · omega
        ·
          refine V_aload0 G dX3_tell_27 ?_
          refine V_getR G fl_X3_19 dX3_tell_28 (by first | decide | assumption) (by first | rfl | assumption) rfl (by first | rfl | assumption) ?_
          refine V_iload2 G dX3_tell_31 ?_
          refine V_aload1 G dX3_tell_32 ?_
          refine V_iload2 G dX3_tell_33 ?_
          refine V_cV1i (d1 := 2) G m_X3_36 dX3_tell_34 (by first | decide | assumption) (by first | rfl | assumption) (c_X4_kindAt hp (n := n) (w := k) ((eg.1 p 2 (by simp <;> omega)).trans hn) hn0 ⟨by omega, by omega⟩) (by omega) (by omega) (by omega) (Nat.le_of_ble_eq_true rfl) (fun x_34 h_34 hp_34 => ?_)
          rw [show x_34 = kd k by rw [hp_34.1]; unfold kdC; rw [if_pos (by omega)]; exact (eg.1 _ _ (by simp <;> omega)).trans (hk k hk0 (by omega)), hp_34.2]
          refine V_iast G dX3_tell_37 (by first | decide | assumption) (by first | rfl | assumption) (by decide) ⟨by omega, by omega⟩ ?_
          refine V_iinc2 G dX3_tell_38 rfl ?_
          refine V_goto G dX3_tell_41 (tgt := 10) (by decide) ?_
          exact ih (k + 1) _ (by omega) (by omega) (r1.sI (by have := hk2 k hk0 (by omega); exact ⟨by omega, by omega⟩)) (eg.st (by simp)) (by rw [hI_sI, if_neg (by omega)]; exact hg4) (fun j j1 j2 => by
            rw [hI_sI]
            by_cases e : j = k
            · rw [if_pos ⟨rfl, e⟩, e]
            · rw [if_neg (fun z => e z.2)]; exact hgk j j1 (by omega))
  refine V_aload0 G dX3_tell_0 ?_
  refine V_aload1 G dX3_tell_1 ?_
  refine V_cV0i (d1 := 1) G m_X3_31 dX3_tell_2 (by first | decide | assumption) (by first | rfl | assumption) (c_X4_size hp) (by omega) (by omega) (by omega) (Nat.le_of_ble_eq_true rfl) (fun x_2 h_2 hp_2 => ?_)
  rw [show x_2 = n from hp_2.1.trans hn, hp_2.2]
  refine V_putI (jz := 4) G fw_X3_26 dX3_tell_5 (by first | decide | assumption) (by first | rfl | assumption) rfl rfl ?_
  refine V_iconst G dX3_tell_8 ?_
  refine V_istore2 G dX3_tell_9 rfl ?_
  exact lp n.toNat 0 _ (by omega) (by omega) (r.sI ⟨by omega, by omega⟩) (eqx.rf.st (by simp)) (by simp [hI_sI]) (fun j j1 j2 => by omega)

end C5
