
section M5
/-- reading by choices: how many words are read; the stack and the heads where all are; how many choices each word had -/
noncomputable def rdF (kd cw : Int → Int) : Nat → Int → List E3 → (Int → Int) → (Int → Int) → Int × Option St3 × (Int → Int)
  | 0, w, L, hd, cn => (w, some (L, hd), cn)
  | m + 1, w, L, hd, cn => match stepW (kd w) w (cw w) L hd with
    | none => (w, none, upH cn w (canW (kd w) L))
    | some (L2, hd2) => rdF kd cw m (w + 1) L2 hd2 (upH cn w (canW (kd w) L))
def rres (n x : Int) (h1 : Hp) (R : Int × Option St3 × (Int → Int)) : Prop := x = R.1 ∧ 0 ≤ x ∧ x ≤ n ∧ hI h1 87 = R.2.2 ∧ match R.2.1 with
  | some (L, hd) => x = n ∧ okL n L ∧ stk h1 L ∧ hI h1 77 11 = L.length ∧ hI h1 88 = hd
  | none => x < n
theorem okL_0 : okL 0 [(0, 0, -1)] := ⟨by simp, fun e he => by simp at he; subst he; exact ⟨by decide, by decide, by decide⟩, fun e he => by simp at he; subst he; exact ⟨by decide, by decide⟩, by simp⟩

set_option maxRecDepth 100000 in
set_option maxHeartbeats 4000000 in
theorem c_X7_reads {l : Launch} {d : Nat} {h : Hp} (r : Rg h) {n : Int} (hn : hI h 78 0 = n) (hn0 : 0 ≤ n ∧ n ≤ 12) (hk : ∀ w, 0 ≤ w → w < n → 0 ≤ hI h 78 (2 + w) ∧ hI h 78 (2 + w) ≤ 6) (hc : ∀ w, 0 ≤ w → w < n → 0 ≤ hI h 86 w) (hd : 5 ≤ d := by omega) : CP l d 0 0 yX7_reads cX7_reads 2 (Option.some Jvm.ClassFile.FieldType.int) [.ref 77] h (pI fun x h1 => eqx Sp h h1 ∧ Rg h1 ∧ rres n x h1 (rdF (fun w => hI h 78 (2 + w)) (hI h 86) n.toNat 0 [(0, 0, -1)] (hI h 88) (hI h 87))) := by
  refine CP.ofV (L := [some (.ref 77), none]) RX7 (by decide +kernel) rfl (Nat.le_of_ble_eq_true rfl) rfl (fun X hX G E => ?_)
  subst hX
  have loop : ∀ (m : Nat) (k : Int) (g : Hp) (L : List E3), k + m = n → 0 ≤ k → Rg g → eqx Sp h g → okL k L → stk g L → hI g 77 11 = L.length → (∀ x h1, eqx Sp h h1 → Rg h1 → rres n x h1 (rdF (fun w => hI h 78 (2 + w)) (hI h 86) m k L (hI g 88) (hI g 87)) → (fun x h1 => eqx Sp h h1 ∧ Rg h1 ∧ rres n x h1 (rdF (fun w => hI h 78 (2 + w)) (hI h 86) n.toNat 0 [(0, 0, -1)] (hI h 88) (hI h 87))) x h1) → V X 0 0 14 [some (.ref 77), some (.int (Int32.ofInt k))] [] g := by
    intro m
    induction m with
    | zero =>
      intro k g L hm_ hw0 r1 eg ok sk hdep hcont
      have r := r1
      have hn2 : hI g 78 0 = n := (eg.1 _ _ rfl).trans hn
      refine V_iload1 G dX7_reads_14 ?_
      refine V_aload0 G dX7_reads_15 ?_
      refine V_getR G fl_X7_7 dX7_reads_16 (by first | decide | assumption) (by first | rfl | assumption) rfl (by first | rfl | assumption) ?_
      refine V_iconst G dX7_reads_19 ?_
      refine V_ialde G dX7_reads_20 (by first | decide | assumption) (by first | rfl | assumption) (by decide) ⟨by omega, by omega⟩ (by first | (simp only [hI_sI, hI_sL, hL_sI, hL_sL, false_and, true_and, and_false, and_true, and_self, if_false, if_true, hn2]; first | done | rfl) | rfl) ?_
      refine V_icmpge G dX7_reads_21 (tgt := 38) (by decide) (by first | exact r _ _ | assumption | exact ⟨by omega, by omega⟩) (by first | exact r _ _ | assumption | exact ⟨by omega, by omega⟩) (fun c_21 => ?_) (fun c_21 => ?_)
      ·
        refine V_iload1 G dX7_reads_38 ?_
        exact V_reti E dX7_reads_39 rfl rfl ⟨_, rfl, hcont _ _ eg r1 ⟨rfl, by omega, by omega, rfl, by omega, by rw [show n = k by omega]; exact ok, sk, hdep, rfl⟩⟩
      · omega
    | succ m ih =>
      intro k g L hm_ hw0 r1 eg ok sk hdep hcont
      have r := r1
      have hn2 : hI g 78 0 = n := (eg.1 _ _ rfl).trans hn
      refine V_iload1 G dX7_reads_14 ?_
      refine V_aload0 G dX7_reads_15 ?_
      refine V_getR G fl_X7_7 dX7_reads_16 (by first | decide | assumption) (by first | rfl | assumption) rfl (by first | rfl | assumption) ?_
      refine V_iconst G dX7_reads_19 ?_
      refine V_ialde G dX7_reads_20 (by first | decide | assumption) (by first | rfl | assumption) (by decide) ⟨by omega, by omega⟩ (by first | (simp only [hI_sI, hI_sL, hL_sI, hL_sL, false_and, true_and, and_false, and_true, and_self, if_false, if_true, hn2]; first | done | rfl) | rfl) ?_
      refine V_icmpge G dX7_reads_21 (tgt := 38) (by decide) (by first | exact r _ _ | assumption | exact ⟨by omega, by omega⟩) (by first | exact r _ _ | assumption | exact ⟨by omega, by omega⟩) (fun c_21 => ?_) (fun c_21 => ?_)
      · omega
      ·
        refine V_aload0 G dX7_reads_24 ?_
        refine V_iload1 G dX7_reads_25 ?_
        refine V_cV1i (d1 := 4) G m_X7_120 dX7_reads_26 (by first | decide | assumption) (by first | rfl | assumption) (c_X7_takes r1 (w := k) (kd := hI h 78 (2 + k)) (cw := hI h 86 k) (by omega) (eg.1 78 _ rfl) (hk k hw0 (by omega)) (eg.1 86 _ rfl) (hc k hw0 (by omega)) ok sk hdep) (by omega) (by omega) (by omega) (Nat.le_of_ble_eq_true rfl) (fun x_26 h_26 hp_26 => ?_)
        refine V_ifeq G dX7_reads_29 (tgt := 38) (by decide) (by have := nres_01 hp_26.2.2.2.2; exact ⟨by omega, by omega⟩) (fun c_29 => ?_) (fun c_29 => ?_)
        ·
          refine V_iload1 G dX7_reads_38 ?_
          exact V_reti E dX7_reads_39 rfl rfl ⟨_, rfl, by
    obtain ⟨ea, ra, ca, cb, na⟩ := hp_26
    have e87 : hI h_26 87 = upH (hI g 87) k (canW (hI h 78 (2 + k)) L) := by
      funext j
      unfold upH
      split
      · next z => rw [z, ca]
      · next z => exact cb j z
    cases hst : stepW (hI h 78 (2 + k)) k (hI h 86 k) L (hI g 88) with
    | some S =>
      obtain ⟨L2, hd2⟩ := S
      rw [hst] at na
      exact absurd c_29 (by have := na.1; omega)
    | none =>
      refine hcont _ _ (eg.tr ea) ra ?_
      show rres n _ h_26 (rdF _ _ (m + 1) k L _ _)
      rw [rdF, hst]
      exact ⟨rfl, by omega, by omega, e87, by omega⟩⟩
        ·
          refine V_iinc1 G dX7_reads_32 rfl ?_
          refine V_goto G dX7_reads_35 (tgt := 14) (by decide) ?_
          obtain ⟨ea, ra, ca, cb, na⟩ := hp_26
          have e87 : hI h_26 87 = upH (hI g 87) k (canW (hI h 78 (2 + k)) L) := by
            funext j
            unfold upH
            split
            · next z => rw [z, ca]
            · next z => exact cb j z
          cases hst : stepW (hI h 78 (2 + k)) k (hI h 86 k) L (hI g 88) with
          | none => rw [hst] at na; exact absurd na c_29
          | some S =>
            obtain ⟨L2, hd2⟩ := S
            rw [hst] at na
            obtain ⟨-, nb, nc, nd⟩ := na
            refine ih (k + 1) h_26 L2 (by omega) (by omega) ra (eg.tr ea) (okL_step (by omega) ok hst) nb nc (fun x h1 q1 q2 q3 => hcont x h1 q1 q2 ?_)
            have e88 : hI h_26 88 = hd2 := funext nd
            rw [e88, e87] at q3
            show rres n x h1 (rdF _ _ (m + 1) k L _ _)
            rw [rdF, hst]
            exact q3
  refine V_aload0 G dX7_reads_0 ?_
  refine V_iconst G dX7_reads_1 ?_
  refine V_putI (jz := 11) G fw_X7_79 dX7_reads_2 (by first | decide | assumption) (by first | rfl | assumption) rfl rfl ?_
  refine V_aload0 G dX7_reads_5 ?_
  refine V_iconst G dX7_reads_6 ?_
  refine V_iconst G dX7_reads_7 ?_
  refine V_iconst G dX7_reads_8 ?_
  refine V_cV3v (d1 := 1) G m_X7_98 dX7_reads_9 (by first | decide | assumption) (by first | rfl | assumption) (c_X7_opens (t := 0) (by omega) (by simp [hI_sI])) (by omega) (by omega) (by omega) (Nat.le_of_ble_eq_true rfl) (fun h_9 hp_9 => ?_)
  rw [hp_9]
  refine V_iconst G dX7_reads_12 ?_
  refine V_istore1 G dX7_reads_13 rfl ?_
  have q := mOpens_stk (h := sI h 77 11 0) (L := []) (a := 0) (b := 0) (c := -1) (t := 0) rfl trivial
  exact loop n.toNat 0 _ _ (by omega) (by omega) (mOpens_Rg (r.sI ⟨by omega, by omega⟩) ⟨by omega, by omega⟩ ⟨by omega, by omega⟩ ⟨by omega, by omega⟩ ⟨by omega, by omega⟩) (mOpens_eqx (eqx.rf.st rfl) rfl rfl rfl rfl) okL_0 q.1 q.2 (fun x h1 q1 q2 q3 => ⟨q1, q2, q3⟩)


theorem stk_all {h : Hp} {p : Int → Prop} : ∀ {L : List E3}, stk h L → ((∀ j : Int, 0 ≤ j → j < L.length → p (hI h 83 j)) ↔ ∀ e ∈ L, p e.1)
  | [], _ => by simp; intro j h1 h2; omega
  | e :: L, s => by
    obtain ⟨s1, -, -, s4⟩ := s
    have ih := stk_all (p := p) s4
    constructor
    · intro q x hx
      rcases List.mem_cons.mp hx with rfl | hx
      · rw [← s1]; exact q _ (by omega) (by simp; omega)
      · exact ih.mp (fun j h1 h2 => q j h1 (by simp; omega)) x hx
    · intro q j h1 h2
      by_cases hj : j = L.length
      · rw [hj, s1]; exact q e List.mem_cons_self
      · exact ih.mpr (fun x hx => q x (List.mem_cons_of_mem _ hx)) j h1 (by simp at h2; omega)
theorem bI_c {p q : Prop} [Decidable p] [Decidable q] (h : p ↔ q) : bI p = bI q := by
  unfold bI
  by_cases z : p
  · rw [if_pos z, if_pos (h.mp z)]
  · rw [if_neg z, if_neg (fun y => z (h.mpr y))]
def compl (a : Int) : Prop := a = 5 ∨ a = 2 ∨ a = 3
/-- all open parts below place k can end -/
noncomputable def whI (p : Prop) : Int := @bI p (Classical.propDecidable p)
theorem whI_01 (p : Prop) : whI p = 0 ∨ whI p = 1 := by unfold whI bI; split <;> simp
theorem whI_t {p : Prop} (h : p) : whI p = 1 := by unfold whI bI; rw [if_pos h]
theorem whI_f {p : Prop} (h : ¬ p) : whI p = 0 := by unfold whI bI; rw [if_neg h]
theorem whI_0 {p : Prop} : whI p = 0 ↔ ¬ p := ⟨fun h z => absurd ((whI_t z).symm.trans h) (by decide), whI_f⟩

set_option maxRecDepth 100000 in
set_option maxHeartbeats 4000000 in
theorem c_X7_isWhole {l : Launch} {d : Nat} {h : Hp} (r : Rg h) {n : Int} (hn : hI h 78 0 = n) (hn0 : 0 ≤ n ∧ n ≤ 12) {L : List E3} (hL : L.length ≤ 16) (sk : stk h L) (hdep : hI h 77 11 = L.length) (hd : 2 ≤ d := by omega) : CP l d 0 0 yX7_isWhole cX7_isWhole 3 (Option.some Jvm.ClassFile.FieldType.boolean) [.ref 77] h (pI fun x h1 => x = whI (0 < n ∧ ∀ e ∈ L, compl e.1) ∧ h1 = h) := by
  refine CP.ofV (L := [some (.ref 77), none, none]) RX7 (by decide +kernel) rfl (Nat.le_of_ble_eq_true rfl) rfl (fun X hX G E => ?_)
  subst hX
  have hdl : (L.length : Int) ≤ 16 := by omega
  have loop : ∀ (m : Nat) (k : Int) , k + m = (L.length : Int) → 0 ≤ k → V X 0 0 17 [some (.ref 77), some (.int (Int32.ofInt (whI (0 < n ∧ ∀ j : Int, 0 ≤ j → j < k → compl (hI h 83 j))))), some (.int (Int32.ofInt k))] [] h := by
    intro m
    induction m with
    | zero =>
      intro k hm_ hk0
      refine V_iload2 G dX7_isWhole_17 ?_
      refine V_aload0 G dX7_isWhole_18 ?_
      refine V_getIe (jz := 11) G fl_X7_79 dX7_isWhole_19 (by first | decide | assumption) (by first | rfl | assumption) rfl rfl (by first | (simp only [hI_sI, hI_sL, hL_sI, hL_sL, false_and, true_and, and_false, and_true, and_self, if_false, if_true, hdep]; first | done | rfl) | rfl) ?_
      refine V_icmpge G dX7_isWhole_22 (tgt := 49) (by decide) (by first | exact r _ _ | assumption | exact ⟨by omega, by omega⟩) (by first | exact r _ _ | assumption | exact ⟨by omega, by omega⟩) (fun c_22 => ?_) (fun c_22 => ?_)
      ·
        refine V_iload1 G dX7_isWhole_49 ?_
        exact V_reti E dX7_isWhole_50 rfl (nar01 (whI_01 _)) ⟨_, rfl, by
            refine ⟨?_, rfl⟩
            have e := stk_all (p := compl) sk
            rw [show (L.length : Int) = k by omega] at e
            rw [e]⟩
      · omega
    | succ m ih =>
      intro k hm_ hk0
      refine V_iload2 G dX7_isWhole_17 ?_
      refine V_aload0 G dX7_isWhole_18 ?_
      refine V_getIe (jz := 11) G fl_X7_79 dX7_isWhole_19 (by first | decide | assumption) (by first | rfl | assumption) rfl rfl (by first | (simp only [hI_sI, hI_sL, hL_sI, hL_sL, false_and, true_and, and_false, and_true, and_self, if_false, if_true, hdep]; first | done | rfl) | rfl) ?_
      refine V_icmpge G dX7_isWhole_22 (tgt := 49) (by decide) (by first | exact r _ _ | assumption | exact ⟨by omega, by omega⟩) (by first | exact r _ _ | assumption | exact ⟨by omega, by omega⟩) (fun c_22 => ?_) (fun c_22 => ?_)
      · omega
      ·
        refine V_iload1 G dX7_isWhole_25 ?_
        refine V_ifeq G dX7_isWhole_26 (tgt := 41) (by decide) (by have := whI_01 (0 < n ∧ ∀ j : Int, 0 ≤ j → j < k → compl (hI h 83 j)); exact ⟨by omega, by omega⟩) (fun c_26 => ?_) (fun c_26 => ?_)
        ·
          refine V_iconst G dX7_isWhole_41 ?_
          refine V_istore1 G dX7_isWhole_42 rfl ?_
          refine V_iinc2 G dX7_isWhole_43 rfl ?_
          refine V_goto G dX7_isWhole_46 (tgt := 17) (by decide) ?_
          first
          | exact (by
              have e : whI (0 < n ∧ ∀ j : Int, 0 ≤ j → j < k + 1 → compl (hI h 83 j)) = 1 := whI_t ⟨(Decidable.not_not.mp (fun z => c_26 (whI_f (fun y => z y.1)))), fun j h1 h2 => by
                by_cases hj : j = k
                · rw [hj]; exact c_34
                · exact (Classical.byContradiction fun z => c_26 (whI_f (fun y => z (y.2 j h1 (by omega)))))⟩
              have q := ih (k + 1) (by omega) (by omega)
              rw [e] at q
              exact q)
          | exact (by
              have e : whI (0 < n ∧ ∀ j : Int, 0 ≤ j → j < k + 1 → compl (hI h 83 j)) = 0 := whI_f (fun z => c_34 (z.2 k hk0 (by omega)))
              have q := ih (k + 1) (by omega) (by omega)
              rw [e] at q
              exact q)
          | exact (by
              have e : whI (0 < n ∧ ∀ j : Int, 0 ≤ j → j < k + 1 → compl (hI h 83 j)) = 0 := whI_f (fun z => (whI_0.mp c_26) ⟨z.1, fun j h1 h2 => z.2 j h1 (by omega)⟩)
              have q := ih (k + 1) (by omega) (by omega)
              rw [e] at q
              exact q)
        ·
          refine V_aload0 G dX7_isWhole_29 ?_
          refine V_iload2 G dX7_isWhole_30 ?_
          refine V_cV1i (d1 := 1) G m_X7_82 dX7_isWhole_31 (by first | decide | assumption) (by first | rfl | assumption) (c_X7_isComplete r (w := k) (by omega)) (by omega) (by omega) (by omega) (Nat.le_of_ble_eq_true rfl) (fun x_31 h_31 hp_31 => ?_)
          rw [hp_31.1, hp_31.2]
          refine V_ifeqB G dX7_isWhole_34 (tgt := 41) (by decide)  (fun c_34 => ?_) (fun c_34 => ?_)
          ·
            refine V_iconst G dX7_isWhole_41 ?_
            refine V_istore1 G dX7_isWhole_42 rfl ?_
            refine V_iinc2 G dX7_isWhole_43 rfl ?_
            refine V_goto G dX7_isWhole_46 (tgt := 17) (by decide) ?_
            first
            | exact (by
                have e : whI (0 < n ∧ ∀ j : Int, 0 ≤ j → j < k + 1 → compl (hI h 83 j)) = 1 := whI_t ⟨(Decidable.not_not.mp (fun z => c_26 (whI_f (fun y => z y.1)))), fun j h1 h2 => by
                  by_cases hj : j = k
                  · rw [hj]; exact c_34
                  · exact (Classical.byContradiction fun z => c_26 (whI_f (fun y => z (y.2 j h1 (by omega)))))⟩
                have q := ih (k + 1) (by omega) (by omega)
                rw [e] at q
                exact q)
            | exact (by
                have e : whI (0 < n ∧ ∀ j : Int, 0 ≤ j → j < k + 1 → compl (hI h 83 j)) = 0 := whI_f (fun z => c_34 (z.2 k hk0 (by omega)))
                have q := ih (k + 1) (by omega) (by omega)
                rw [e] at q
                exact q)
            | exact (by
                have e : whI (0 < n ∧ ∀ j : Int, 0 ≤ j → j < k + 1 → compl (hI h 83 j)) = 0 := whI_f (fun z => (whI_0.mp c_26) ⟨z.1, fun j h1 h2 => z.2 j h1 (by omega)⟩)
                have q := ih (k + 1) (by omega) (by omega)
                rw [e] at q
                exact q)
          ·
            refine V_iconst G dX7_isWhole_37 ?_
            refine V_goto G dX7_isWhole_38 (tgt := 42) (by decide) ?_
            refine V_istore1 G dX7_isWhole_42 rfl ?_
            refine V_iinc2 G dX7_isWhole_43 rfl ?_
            refine V_goto G dX7_isWhole_46 (tgt := 17) (by decide) ?_
            first
            | exact (by
                have e : whI (0 < n ∧ ∀ j : Int, 0 ≤ j → j < k + 1 → compl (hI h 83 j)) = 1 := whI_t ⟨(Decidable.not_not.mp (fun z => c_26 (whI_f (fun y => z y.1)))), fun j h1 h2 => by
                  by_cases hj : j = k
                  · rw [hj]; exact c_34
                  · exact (Classical.byContradiction fun z => c_26 (whI_f (fun y => z (y.2 j h1 (by omega)))))⟩
                have q := ih (k + 1) (by omega) (by omega)
                rw [e] at q
                exact q)
            | exact (by
                have e : whI (0 < n ∧ ∀ j : Int, 0 ≤ j → j < k + 1 → compl (hI h 83 j)) = 0 := whI_f (fun z => c_34 (z.2 k hk0 (by omega)))
                have q := ih (k + 1) (by omega) (by omega)
                rw [e] at q
                exact q)
            | exact (by
                have e : whI (0 < n ∧ ∀ j : Int, 0 ≤ j → j < k + 1 → compl (hI h 83 j)) = 0 := whI_f (fun z => (whI_0.mp c_26) ⟨z.1, fun j h1 h2 => z.2 j h1 (by omega)⟩)
                have q := ih (k + 1) (by omega) (by omega)
                rw [e] at q
                exact q)
  refine V_aload0 G dX7_isWhole_0 ?_
  refine V_getR G fl_X7_7 dX7_isWhole_1 (by first | decide | assumption) (by first | rfl | assumption) rfl (by first | rfl | assumption) ?_
  refine V_iconst G dX7_isWhole_4 ?_
  refine V_ialde G dX7_isWhole_5 (by first | decide | assumption) (by first | rfl | assumption) (by decide) ⟨by omega, by omega⟩ (by first | (simp only [hI_sI, hI_sL, hL_sI, hL_sL, false_and, true_and, and_false, and_true, and_self, if_false, if_true, hn]; first | done | rfl) | rfl) ?_
  refine V_ifle G dX7_isWhole_6 (tgt := 13) (by decide) (by first | exact r _ _ | assumption | exact ⟨by omega, by omega⟩) (fun c_6 => ?_) (fun c_6 => ?_)
  ·
    refine V_iconst G dX7_isWhole_13 ?_
    refine V_istore1 G dX7_isWhole_14 rfl ?_
    refine V_iconst G dX7_isWhole_15 ?_
    refine V_istore2 G dX7_isWhole_16 rfl ?_
    first
    | exact (by
        have q := loop L.length 0 (by omega) (by omega)
        rw [whI_t ⟨by omega, fun j h1 h2 => by omega⟩] at q
        exact q)
    | exact (by
        have q := loop L.length 0 (by omega) (by omega)
        rw [whI_f (fun z => by have := z.1; omega)] at q
        exact q)
  ·
    refine V_iconst G dX7_isWhole_9 ?_
    refine V_goto G dX7_isWhole_10 (tgt := 14) (by decide) ?_
    refine V_istore1 G dX7_isWhole_14 rfl ?_
    refine V_iconst G dX7_isWhole_15 ?_
    refine V_istore2 G dX7_isWhole_16 rfl ?_
    first
    | exact (by
        have q := loop L.length 0 (by omega) (by omega)
        rw [whI_t ⟨by omega, fun j h1 h2 => by omega⟩] at q
        exact q)
    | exact (by
        have q := loop L.length 0 (by omega) (by omega)
        rw [whI_f (fun z => by have := z.1; omega)] at q
        exact q)


def aheadF (f g : Int → Int) : Nat → Int → Bool
  | 0, _ => false
  | m + 1, w => if f w = g w then aheadF f g m (w + 1) else decide (f w < g w)

set_option maxRecDepth 100000 in
set_option maxHeartbeats 4000000 in
theorem c_X7_isAhead {l : Launch} {d : Nat} {h : Hp} (r : Rg h) {n k1 : Int} (hn : hI h 78 0 = n) (hn0 : 0 ≤ n ∧ n ≤ 12) (hk1 : 0 ≤ k1 ∧ k1 < 400) (hd : 1 ≤ d := by omega) : CP l d 0 0 yX7_isAhead cX7_isAhead 4 (Option.some Jvm.ClassFile.FieldType.boolean) [.ref 77, iv k1] h (pI fun x h1 => x = bI (aheadF (hI h 88) (fun w => hI h 89 (12 * k1 + w)) n.toNat 0 = true) ∧ h1 = h) := by
  refine CP.ofV (L := [some (.ref 77), some (.int (Int32.ofInt k1)), none, none]) RX7 (by decide +kernel) rfl (Nat.le_of_ble_eq_true rfl) rfl (fun X hX G E => ?_)
  subst hX
  have loop : ∀ (m : Nat) (k : Int) (a3 : Option Value), k + m = n → 0 ≤ k → aheadF (hI h 88) (fun w => hI h 89 (12 * k1 + w)) n.toNat 0 = aheadF (hI h 88) (fun w => hI h 89 (12 * k1 + w)) m k → V X 0 0 2 [some (.ref 77), some (.int (Int32.ofInt k1)), some (.int (Int32.ofInt k)), a3] [] h := by
    intro m
    induction m with
    | zero =>
      intro k a3 hm_ hk0 he
      refine V_iload2 G dX7_isAhead_2 ?_
      refine V_aload0 G dX7_isAhead_3 ?_
      refine V_getR G fl_X7_7 dX7_isAhead_4 (by first | decide | assumption) (by first | rfl | assumption) rfl (by first | rfl | assumption) ?_
      refine V_iconst G dX7_isAhead_7 ?_
      refine V_ialde G dX7_isAhead_8 (by first | decide | assumption) (by first | rfl | assumption) (by decide) ⟨by omega, by omega⟩ (by first | (simp only [hI_sI, hI_sL, hL_sI, hL_sL, false_and, true_and, and_false, and_true, and_self, if_false, if_true, hn]; first | done | rfl) | rfl) ?_
      refine V_icmpge G dX7_isAhead_9 (tgt := 56) (by decide) (by first | exact r _ _ | assumption | exact ⟨by omega, by omega⟩) (by first | exact r _ _ | assumption | exact ⟨by omega, by omega⟩) (fun c_9 => ?_) (fun c_9 => ?_)
      ·
        refine V_iconst G dX7_isAhead_56 ?_
        exact V_reti E dX7_isAhead_57 rfl rfl ⟨_, rfl, ⟨by rw [he]; rfl, rfl⟩⟩
      · omega
    | succ m ih =>
      intro k a3 hm_ hk0 he
      refine V_iload2 G dX7_isAhead_2 ?_
      refine V_aload0 G dX7_isAhead_3 ?_
      refine V_getR G fl_X7_7 dX7_isAhead_4 (by first | decide | assumption) (by first | rfl | assumption) rfl (by first | rfl | assumption) ?_
      refine V_iconst G dX7_isAhead_7 ?_
      refine V_ialde G dX7_isAhead_8 (by first | decide | assumption) (by first | rfl | assumption) (by decide) ⟨by omega, by omega⟩ (by first | (simp only [hI_sI, hI_sL, hL_sI, hL_sL, false_and, true_and, and_false, and_true, and_self, if_false, if_true, hn]; first | done | rfl) | rfl) ?_
      refine V_icmpge G dX7_isAhead_9 (tgt := 56) (by decide) (by first | exact r _ _ | assumption | exact ⟨by omega, by omega⟩) (by first | exact r _ _ | assumption | exact ⟨by omega, by omega⟩) (fun c_9 => ?_) (fun c_9 => ?_)
      · omega
      ·
        refine V_aload0 G dX7_isAhead_12 ?_
        refine V_getR G fl_X7_44 dX7_isAhead_13 (by first | decide | assumption) (by first | rfl | assumption) rfl (by first | rfl | assumption) ?_
        refine V_bipush G dX7_isAhead_16 (by decide) ?_
        refine V_iload1 G dX7_isAhead_18 ?_
        refine V_imul G dX7_isAhead_19 ?_
        refine V_iload2 G dX7_isAhead_20 ?_
        refine V_iadd G dX7_isAhead_21 ?_
        refine V_ialde G dX7_isAhead_22 (by first | decide | assumption) (by first | rfl | assumption) (by decide) ⟨by omega, by omega⟩ (by first | (simp only [hI_sI, hI_sL, hL_sI, hL_sL, false_and, true_and, and_false, and_true, and_self, if_false, if_true, hn]; first | done | rfl) | rfl) ?_
        refine V_istore3 G dX7_isAhead_23 rfl ?_
        refine V_aload0 G dX7_isAhead_24 ?_
        refine V_getR G fl_X7_41 dX7_isAhead_25 (by first | decide | assumption) (by first | rfl | assumption) rfl (by first | rfl | assumption) ?_
        refine V_iload2 G dX7_isAhead_28 ?_
        refine V_ialde G dX7_isAhead_29 (by first | decide | assumption) (by first | rfl | assumption) (by decide) ⟨by omega, by omega⟩ (by first | (simp only [hI_sI, hI_sL, hL_sI, hL_sL, false_and, true_and, and_false, and_true, and_self, if_false, if_true, hn]; first | done | rfl) | rfl) ?_
        refine V_iload3 G dX7_isAhead_30 ?_
        refine V_icmpeq G dX7_isAhead_31 (tgt := 50) (by decide) (by first | exact r _ _ | assumption | exact ⟨by omega, by omega⟩) (by first | exact r _ _ | assumption | exact ⟨by omega, by omega⟩) (fun c_31 => ?_) (fun c_31 => ?_)
        ·
          refine V_iinc2 G dX7_isAhead_50 rfl ?_
          refine V_goto G dX7_isAhead_53 (tgt := 2) (by decide) ?_
          exact ih (k + 1) _ (by omega) (by omega) (by rw [he, aheadF, if_pos (by omega)])
        ·
          refine V_aload0 G dX7_isAhead_34 ?_
          refine V_getR G fl_X7_41 dX7_isAhead_35 (by first | decide | assumption) (by first | rfl | assumption) rfl (by first | rfl | assumption) ?_
          refine V_iload2 G dX7_isAhead_38 ?_
          refine V_ialde G dX7_isAhead_39 (by first | decide | assumption) (by first | rfl | assumption) (by decide) ⟨by omega, by omega⟩ (by first | (simp only [hI_sI, hI_sL, hL_sI, hL_sL, false_and, true_and, and_false, and_true, and_self, if_false, if_true, hn]; first | done | rfl) | rfl) ?_
          refine V_iload3 G dX7_isAhead_40 ?_
          refine V_icmpge G dX7_isAhead_41 (tgt := 48) (by decide) (by first | exact r _ _ | assumption | exact ⟨by omega, by omega⟩) (by first | exact r _ _ | assumption | exact ⟨by omega, by omega⟩) (fun c_41 => ?_) (fun c_41 => ?_)
          ·
            refine V_iconst G dX7_isAhead_48 ?_
            exact V_reti E dX7_isAhead_49 rfl rfl ⟨_, rfl, ⟨by
    rw [he, aheadF, if_neg (by omega)]
    first
    | (rw [decide_eq_true (by omega : hI h 88 k < hI h 89 (12 * k1 + k))]; rfl)
    | (rw [decide_eq_false (by omega : ¬ hI h 88 k < hI h 89 (12 * k1 + k))]; rfl), rfl⟩⟩
          ·
            refine V_iconst G dX7_isAhead_44 ?_
            refine V_goto G dX7_isAhead_45 (tgt := 49) (by decide) ?_
            exact V_reti E dX7_isAhead_49 rfl rfl ⟨_, rfl, ⟨by
    rw [he, aheadF, if_neg (by omega)]
    first
    | (rw [decide_eq_true (by omega : hI h 88 k < hI h 89 (12 * k1 + k))]; rfl)
    | (rw [decide_eq_false (by omega : ¬ hI h 88 k < hI h 89 (12 * k1 + k))]; rfl), rfl⟩⟩
  refine V_iconst G dX7_isAhead_0 ?_
  refine V_istore2 G dX7_isAhead_1 rfl ?_
  exact loop n.toNat 0 _ (by omega) (by omega) rfl


/-- the next row of choices: the last word ahead of m with a choice left takes the next one -/
def nxF (cw cn : Int → Int) : Nat → Option (Int → Int)
  | 0 => none
  | m + 1 => if cn m ≤ cw m + 1 then nxF cw cn m else some (fun j => if j = m then cw m + 1 else if (m : Int) < j ∧ j < 12 then 0 else cw j)
def S86 (q : Nat) (_ : Int) : Bool := q == 86
def nxres (x : Int) (h h1 : Hp) : Option (Int → Int) → Prop
  | none => x = 0 ∧ h1 = h
  | some c => x = 1 ∧ eqx S86 h h1 ∧ Rg h1 ∧ hI h1 86 = c


set_option maxRecDepth 100000 in
set_option maxHeartbeats 4000000 in
theorem next58 {X : Cxt} {d : Nat} {h : Hp} {P : Int → Hp → Prop} (G : Gd X RX7 cX7_choosesNext d 0 0) (E : Ends X cX7_choosesNext (some .boolean) 0 0 (pI P)) (r : Rg h) {w x1 : Int} (hw : 0 ≤ w ∧ w < 12) (hc : hI h 86 w < 2000000000) {a3 : Option Value}
    (hP : ∀ h1, eqx S86 h h1 → Rg h1 → hI h1 86 = (fun j => if j = w then hI h 86 w + 1 else if w < j ∧ j < 12 then 0 else hI h 86 j) → P 1 h1) : V X 0 0 58 [some (.ref 77), some (.int (Int32.ofInt x1)), some (.int (Int32.ofInt w)), a3] [] h := by
  have hcr := r 86 w
  have loop : ∀ (m : Nat) (k : Int) (g : Hp), k + m = 12 → w < k → Rg g → eqx S86 h g → hI g 86 = (fun j => if j = w then hI h 86 w + 1 else if w < j ∧ j < k then 0 else hI h 86 j) → V X 0 0 72 [some (.ref 77), some (.int (Int32.ofInt x1)), some (.int (Int32.ofInt w)), some (.int (Int32.ofInt k))] [] g := by
    intro m
    induction m with
    | zero =>
      intro k g hm_ hk0 r1 eg hf
      refine V_iload3 G dX7_choosesNext_72 ?_
      refine V_bipush G dX7_choosesNext_73 (by decide) ?_
      refine V_icmpge G dX7_choosesNext_75 (tgt := 91) (by decide) (by first | exact r _ _ | assumption | exact ⟨by omega, by omega⟩) (by first | exact r _ _ | assumption | exact ⟨by omega, by omega⟩) (fun c_75 => ?_) (fun c_75 => ?_)
      ·
        refine V_iconst G dX7_choosesNext_91 ?_
        exact V_reti E dX7_choosesNext_92 rfl rfl ⟨_, rfl, hP _ eg r1 (by rw [hf, show k = 12 by omega])⟩
      · omega
    | succ m ih =>
      intro k g hm_ hk0 r1 eg hf
      refine V_iload3 G dX7_choosesNext_72 ?_
      refine V_bipush G dX7_choosesNext_73 (by decide) ?_
      refine V_icmpge G dX7_choosesNext_75 (tgt := 91) (by decide) (by first | exact r _ _ | assumption | exact ⟨by omega, by omega⟩) (by first | exact r _ _ | assumption | exact ⟨by omega, by omega⟩) (fun c_75 => ?_) (fun c_75 => ?_)
      · omega
      ·
        refine V_aload0 G dX7_choosesNext_78 ?_
        refine V_getR G fl_X7_35 dX7_choosesNext_79 (by first | decide | assumption) (by first | rfl | assumption) rfl (by first | rfl | assumption) ?_
        refine V_iload3 G dX7_choosesNext_82 ?_
        refine V_iconst G dX7_choosesNext_83 ?_
        refine V_iast G dX7_choosesNext_84 (by first | decide | assumption) (by first | rfl | assumption) (by decide) ⟨by omega, by omega⟩ ?_
        refine V_iinc3 G dX7_choosesNext_85 rfl ?_
        refine V_goto G dX7_choosesNext_88 (tgt := 72) (by decide) ?_
        exact ih (k + 1) _ (by omega) (by omega) (r1.sI ⟨by omega, by omega⟩) (eg.st rfl) (by
          funext j
          rw [hI_sI, hf]
          dsimp only
          by_cases hj : j = k
          · rw [if_pos ⟨rfl, hj⟩, if_neg (by omega), if_pos (by omega)]
          · rw [if_neg (fun z => hj z.2)]
            by_cases hj2 : j = w
            · rw [if_pos hj2, if_pos hj2]
            · rw [if_neg hj2, if_neg hj2]
              by_cases hj3 : w < j ∧ j < k
              · rw [if_pos hj3, if_pos (by omega)]
              · rw [if_neg hj3, if_neg (by omega)])
  refine V_aload0 G dX7_choosesNext_58 ?_
  refine V_getR G fl_X7_35 dX7_choosesNext_59 (by first | decide | assumption) (by first | rfl | assumption) rfl (by first | rfl | assumption) ?_
  refine V_iload2 G dX7_choosesNext_62 ?_
  refine V_dup2 G dX7_choosesNext_63 rfl rfl ?_
  refine V_ialde G dX7_choosesNext_64 (by first | decide | assumption) (by first | rfl | assumption) (by decide) ⟨by omega, by omega⟩ (by first | (simp only [hI_sI, hI_sL, hL_sI, hL_sL, false_and, true_and, and_false, and_true, and_self, if_false, if_true]; first | done | rfl) | rfl) ?_
  refine V_iconst G dX7_choosesNext_65 ?_
  refine V_iadd G dX7_choosesNext_66 ?_
  refine V_iast G dX7_choosesNext_67 (by first | decide | assumption) (by first | rfl | assumption) (by decide) ⟨by omega, by omega⟩ ?_
  refine V_iload2 G dX7_choosesNext_68 ?_
  refine V_iconst G dX7_choosesNext_69 ?_
  refine V_iadd G dX7_choosesNext_70 ?_
  refine V_istore3 G dX7_choosesNext_71 rfl ?_
  exact loop (12 - (w + 1)).toNat (w + 1) _ (by omega) (by omega) (r.sI ⟨by omega, by omega⟩) (eqx.rf.st rfl) (by
    funext j
    rw [hI_sI]
    by_cases hj : j = w
    · rw [if_pos ⟨rfl, hj⟩, if_pos hj]
    · rw [if_neg (fun z => hj z.2), if_neg hj, if_neg (by omega)])

set_option maxRecDepth 100000 in
set_option maxHeartbeats 4000000 in
theorem next25 {X : Cxt} {d : Nat} {h : Hp} {P : Int → Hp → Prop} (G : Gd X RX7 cX7_choosesNext d 0 0) (E : Ends X cX7_choosesNext (some .boolean) 0 0 (pI P)) (r : Rg h) {x1 : Int} (hc : ∀ w, 0 ≤ w → w < 12 → hI h 86 w < 2000000000) {a3 : Option Value} : ∀ (m : Nat), m ≤ 12 →
    (∀ x h1, nxres x h h1 (nxF (hI h 86) (hI h 87) m) → P x h1) → V X 0 0 25 [some (.ref 77), some (.int (Int32.ofInt x1)), some (.int (Int32.ofInt ((m : Int) - 1))), a3] [] h
  | 0, _, hP => by
    refine V_iload2 G dX7_choosesNext_25 ?_
    refine V_iflt G dX7_choosesNext_26 (tgt := 52) (by decide) ⟨by simp, by simp⟩ (fun c_26 => ?_) (fun c_26 => ?_)
    ·
      refine V_iload2 G dX7_choosesNext_52 ?_
      refine V_ifge G dX7_choosesNext_53 (tgt := 58) (by decide) ⟨by simp, by simp⟩ (fun c_53 => ?_) (fun c_53 => ?_)
      · (simp at c_53)
      ·
        refine V_iconst G dX7_choosesNext_56 ?_
        exact V_reti E dX7_choosesNext_57 rfl rfl ⟨_, rfl, hP _ _ ⟨rfl, rfl⟩⟩
    · (simp at c_26)
  | m + 1, hm, hP => by
    have hcm := hc m (by omega) (by omega)
    have hcr := r 86 m
    have hnr := r 87 m
    rw [show ((m + 1 : Nat) : Int) - 1 = (m : Int) by omega]
    refine V_iload2 G dX7_choosesNext_25 ?_
    refine V_iflt G dX7_choosesNext_26 (tgt := 52) (by decide) (by first | exact r _ _ | assumption | exact ⟨by omega, by omega⟩) (fun c_26 => ?_) (fun c_26 => ?_)
    · omega
    ·
      refine V_aload0 G dX7_choosesNext_29 ?_
      refine V_getR G fl_X7_35 dX7_choosesNext_30 (by first | decide | assumption) (by first | rfl | assumption) rfl (by first | rfl | assumption) ?_
      refine V_iload2 G dX7_choosesNext_33 ?_
      refine V_ialde G dX7_choosesNext_34 (by first | decide | assumption) (by first | rfl | assumption) (by decide) ⟨by omega, by omega⟩ (by first | (simp only [hI_sI, hI_sL, hL_sI, hL_sL, false_and, true_and, and_false, and_true, and_self, if_false, if_true]; first | done | rfl) | rfl) ?_
      refine V_iconst G dX7_choosesNext_35 ?_
      refine V_iadd G dX7_choosesNext_36 ?_
      refine V_aload0 G dX7_choosesNext_37 ?_
      refine V_getR G fl_X7_38 dX7_choosesNext_38 (by first | decide | assumption) (by first | rfl | assumption) rfl (by first | rfl | assumption) ?_
      refine V_iload2 G dX7_choosesNext_41 ?_
      refine V_ialde G dX7_choosesNext_42 (by first | decide | assumption) (by first | rfl | assumption) (by decide) ⟨by omega, by omega⟩ (by first | (simp only [hI_sI, hI_sL, hL_sI, hL_sL, false_and, true_and, and_false, and_true, and_self, if_false, if_true]; first | done | rfl) | rfl) ?_
      refine V_icmplt G dX7_choosesNext_43 (tgt := 52) (by decide) (by first | exact r _ _ | assumption | exact ⟨by omega, by omega⟩) (by first | exact r _ _ | assumption | exact ⟨by omega, by omega⟩) (fun c_43 => ?_) (fun c_43 => ?_)
      ·
        refine V_iload2 G dX7_choosesNext_52 ?_
        refine V_ifge G dX7_choosesNext_53 (tgt := 58) (by decide) (by first | exact r _ _ | assumption | exact ⟨by omega, by omega⟩) (fun c_53 => ?_) (fun c_53 => ?_)
        ·
          exact next58 G E r (w := m) (by omega) hcm (fun h1 q1 q2 q3 => hP _ _ (by
            rw [nxF, if_neg (by omega)]
            exact ⟨rfl, q1, q2, q3⟩))
        · omega
      ·
        refine V_iinc2 G dX7_choosesNext_46 rfl ?_
        refine V_goto G dX7_choosesNext_49 (tgt := 25) (by decide) ?_
        rw [show (m : Int) + -1 = (m : Int) - 1 by omega]
        exact next25 G E r hc m (by omega) (fun x h1 q => hP x h1 (by rw [nxF, if_pos (by omega)]; exact q))
set_option maxRecDepth 100000 in
set_option maxHeartbeats 4000000 in
theorem c_X7_choosesNext {l : Launch} {d : Nat} {h : Hp} (r : Rg h) {n x1 : Int} (hn : hI h 78 0 = n) (hn0 : 0 ≤ n ∧ n ≤ 12) (hx : 0 ≤ x1 ∧ x1 ≤ n) (hc : ∀ w, 0 ≤ w → w < 12 → hI h 86 w < 2000000000) (hd : 1 ≤ d := by omega) : CP l d 0 0 yX7_choosesNext cX7_choosesNext 4 (Option.some Jvm.ClassFile.FieldType.boolean) [.ref 77, iv x1] h (pI fun x h1 => nxres x h h1 (nxF (hI h 86) (hI h 87) x1.toNat)) := by
  refine CP.ofV (L := [some (.ref 77), some (.int (Int32.ofInt x1)), none, none]) RX7 (by decide +kernel) rfl (Nat.le_of_ble_eq_true rfl) rfl (fun X hX G E => ?_)
  subst hX
  refine V_iload1 G dX7_choosesNext_0 ?_
  refine V_aload0 G dX7_choosesNext_1 ?_
  refine V_getR G fl_X7_7 dX7_choosesNext_2 (by first | decide | assumption) (by first | rfl | assumption) rfl (by first | rfl | assumption) ?_
  refine V_iconst G dX7_choosesNext_5 ?_
  refine V_ialde G dX7_choosesNext_6 (by first | decide | assumption) (by first | rfl | assumption) (by decide) ⟨by omega, by omega⟩ (by first | (simp only [hI_sI, hI_sL, hL_sI, hL_sL, false_and, true_and, and_false, and_true, and_self, if_false, if_true, hn]; first | done | rfl) | rfl) ?_
  refine V_icmpge G dX7_choosesNext_7 (tgt := 16) (by decide) (by first | exact r _ _ | assumption | exact ⟨by omega, by omega⟩) (by first | exact r _ _ | assumption | exact ⟨by omega, by omega⟩) (fun c_7 => ?_) (fun c_7 => ?_)
  ·
    refine V_aload0 G dX7_choosesNext_16 ?_
    refine V_getR G fl_X7_7 dX7_choosesNext_17 (by first | decide | assumption) (by first | rfl | assumption) rfl (by first | rfl | assumption) ?_
    refine V_iconst G dX7_choosesNext_20 ?_
    refine V_ialde G dX7_choosesNext_21 (by first | decide | assumption) (by first | rfl | assumption) (by decide) ⟨by omega, by omega⟩ (by first | (simp only [hI_sI, hI_sL, hL_sI, hL_sL, false_and, true_and, and_false, and_true, and_self, if_false, if_true, hn]; first | done | rfl) | rfl) ?_
    refine V_iconst G dX7_choosesNext_22 ?_
    refine V_isub G dX7_choosesNext_23 ?_
    refine V_istore2 G dX7_choosesNext_24 rfl ?_
    first
    | (rw [show n - 1 = (x1.toNat : Int) - 1 by omega]; exact next25 G E r hc x1.toNat (by omega) (fun x h1 q => q))
    | (rw [show x1 - 1 = (x1.toNat : Int) - 1 by omega]; exact next25 G E r hc x1.toNat (by omega) (fun x h1 q => q))
  ·
    refine V_iload1 G dX7_choosesNext_10 ?_
    refine V_iconst G dX7_choosesNext_11 ?_
    refine V_isub G dX7_choosesNext_12 ?_
    refine V_goto G dX7_choosesNext_13 (tgt := 24) (by decide) ?_
    refine V_istore2 G dX7_choosesNext_24 rfl ?_
    first
    | (rw [show n - 1 = (x1.toNat : Int) - 1 by omega]; exact next25 G E r hc x1.toNat (by omega) (fun x h1 q => q))
    | (rw [show x1 - 1 = (x1.toNat : Int) - 1 by omega]; exact next25 G E r hc x1.toNat (by omega) (fun x h1 q => q))

end M5
